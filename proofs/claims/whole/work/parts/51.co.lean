/-! ===== the reference's memory without what is its own: frames, thread, acts, thrown ===== -/
abbrev core (i j : Nat) : Prop := (i = 30 ∧ j ≠ 0 ∧ j ≠ 45 ∧ j ≠ 51 ∧ j ≠ 52) ∨ (203 ≤ i ∧ i ≤ 244)
def co (I : MI) : MI := fun i j => if core i j then I i j else 0
def coL (L : ML) : ML := fun i j => if core i j then L i j else 0
theorem co_rd {I : MI} {i j : Nat} (h : core i j) : co I i j = I i j := if_pos h
theorem co_cell {I : MI} {i : Nat} (h1 : 203 ≤ i) (h2 : i ≤ 244) : co I i = I i := funext fun _ => if_pos (Or.inr ⟨h1, h2⟩)
theorem coL_cell {L : ML} {i : Nat} (h1 : 203 ≤ i) (h2 : i ≤ 244) : coL L i = L i := funext fun _ => if_pos (Or.inr ⟨h1, h2⟩)
theorem co_up {I : MI} {i j : Nat} {v : Int32} (h : core i j) : co (upI I i j v) = upI (co I) i j v := by
  funext x y
  unfold co upI
  by_cases e : x = i ∧ y = j
  · rw [e.1, e.2, if_pos h, if_pos ⟨rfl, rfl⟩, if_pos ⟨rfl, rfl⟩]
  · rw [if_neg e, if_neg e]
theorem co_no {I : MI} {i j : Nat} {v : Int32} (h : ¬ core i j) : co (upI I i j v) = co I := by
  funext x y
  unfold co upI
  by_cases e : x = i ∧ y = j
  · rw [e.1, e.2, if_neg h, if_neg h]
  · rw [if_neg e]
theorem coL_up {L : ML} {i j : Nat} {v : Int64} (h : core i j) : coL (upL L i j v) = upL (coL L) i j v := by
  funext x y
  unfold coL upL
  by_cases e : x = i ∧ y = j
  · rw [e.1, e.2, if_pos h, if_pos ⟨rfl, rfl⟩, if_pos ⟨rfl, rfl⟩]
  · rw [if_neg e, if_neg e]
theorem core_c {i j : Nat} (h1 : 203 ≤ i) (h2 : i ≤ 244) : core i j := Or.inr ⟨h1, h2⟩
theorem co_co (I : MI) : co (co I) = co I := by
  funext i j
  unfold co
  split <;> rfl
theorem co_204 (I : MI) : co I 204 = I 204 := co_cell (by decide) (by decide)
theorem co_205 (I : MI) : co I 205 = I 205 := co_cell (by decide) (by decide)
theorem co_206 (I : MI) : co I 206 = I 206 := co_cell (by decide) (by decide)
theorem co_207 (I : MI) : co I 207 = I 207 := co_cell (by decide) (by decide)
theorem co_208 (I : MI) : co I 208 = I 208 := co_cell (by decide) (by decide)
theorem co_209 (I : MI) : co I 209 = I 209 := co_cell (by decide) (by decide)
theorem co_210 (I : MI) : co I 210 = I 210 := co_cell (by decide) (by decide)
theorem co_211 (I : MI) : co I 211 = I 211 := co_cell (by decide) (by decide)
theorem co_212 (I : MI) : co I 212 = I 212 := co_cell (by decide) (by decide)
theorem co_213 (I : MI) : co I 213 = I 213 := co_cell (by decide) (by decide)
theorem co_214 (I : MI) : co I 214 = I 214 := co_cell (by decide) (by decide)
theorem co_215 (I : MI) : co I 215 = I 215 := co_cell (by decide) (by decide)
theorem co_216 (I : MI) : co I 216 = I 216 := co_cell (by decide) (by decide)
theorem co_217 (I : MI) : co I 217 = I 217 := co_cell (by decide) (by decide)
theorem co_224 (I : MI) : co I 224 = I 224 := co_cell (by decide) (by decide)
theorem co_226 (I : MI) : co I 226 = I 226 := co_cell (by decide) (by decide)
theorem co_228 (I : MI) : co I 228 = I 228 := co_cell (by decide) (by decide)
theorem co_229 (I : MI) : co I 229 = I 229 := co_cell (by decide) (by decide)
theorem co_230 (I : MI) : co I 230 = I 230 := co_cell (by decide) (by decide)
theorem co_231 (I : MI) : co I 231 = I 231 := co_cell (by decide) (by decide)
theorem co_232 (I : MI) : co I 232 = I 232 := co_cell (by decide) (by decide)
theorem co_233 (I : MI) : co I 233 = I 233 := co_cell (by decide) (by decide)
theorem co_235 (I : MI) : co I 235 = I 235 := co_cell (by decide) (by decide)
theorem co_236 (I : MI) : co I 236 = I 236 := co_cell (by decide) (by decide)
theorem co_237 (I : MI) : co I 237 = I 237 := co_cell (by decide) (by decide)
theorem co_238 (I : MI) : co I 238 = I 238 := co_cell (by decide) (by decide)
theorem co_239 (I : MI) : co I 239 = I 239 := co_cell (by decide) (by decide)
theorem co_242 (I : MI) : co I 242 = I 242 := co_cell (by decide) (by decide)
theorem co_243 (I : MI) : co I 243 = I 243 := co_cell (by decide) (by decide)
theorem co_244 (I : MI) : co I 244 = I 244 := co_cell (by decide) (by decide)
theorem cu_204 (I : MI) (j : Nat) (v : Int32) : co (upI I 204 j v) = upI (co I) 204 j v := co_up (core_c (by decide) (by decide))
theorem cu_205 (I : MI) (j : Nat) (v : Int32) : co (upI I 205 j v) = upI (co I) 205 j v := co_up (core_c (by decide) (by decide))
theorem cu_206 (I : MI) (j : Nat) (v : Int32) : co (upI I 206 j v) = upI (co I) 206 j v := co_up (core_c (by decide) (by decide))
theorem cu_207 (I : MI) (j : Nat) (v : Int32) : co (upI I 207 j v) = upI (co I) 207 j v := co_up (core_c (by decide) (by decide))
theorem cu_208 (I : MI) (j : Nat) (v : Int32) : co (upI I 208 j v) = upI (co I) 208 j v := co_up (core_c (by decide) (by decide))
theorem cu_209 (I : MI) (j : Nat) (v : Int32) : co (upI I 209 j v) = upI (co I) 209 j v := co_up (core_c (by decide) (by decide))
theorem cu_210 (I : MI) (j : Nat) (v : Int32) : co (upI I 210 j v) = upI (co I) 210 j v := co_up (core_c (by decide) (by decide))
theorem cu_211 (I : MI) (j : Nat) (v : Int32) : co (upI I 211 j v) = upI (co I) 211 j v := co_up (core_c (by decide) (by decide))
theorem cu_212 (I : MI) (j : Nat) (v : Int32) : co (upI I 212 j v) = upI (co I) 212 j v := co_up (core_c (by decide) (by decide))
theorem cu_213 (I : MI) (j : Nat) (v : Int32) : co (upI I 213 j v) = upI (co I) 213 j v := co_up (core_c (by decide) (by decide))
theorem cu_214 (I : MI) (j : Nat) (v : Int32) : co (upI I 214 j v) = upI (co I) 214 j v := co_up (core_c (by decide) (by decide))
theorem cu_215 (I : MI) (j : Nat) (v : Int32) : co (upI I 215 j v) = upI (co I) 215 j v := co_up (core_c (by decide) (by decide))
theorem cu_216 (I : MI) (j : Nat) (v : Int32) : co (upI I 216 j v) = upI (co I) 216 j v := co_up (core_c (by decide) (by decide))
theorem cu_217 (I : MI) (j : Nat) (v : Int32) : co (upI I 217 j v) = upI (co I) 217 j v := co_up (core_c (by decide) (by decide))
theorem cu_224 (I : MI) (j : Nat) (v : Int32) : co (upI I 224 j v) = upI (co I) 224 j v := co_up (core_c (by decide) (by decide))
theorem cu_226 (I : MI) (j : Nat) (v : Int32) : co (upI I 226 j v) = upI (co I) 226 j v := co_up (core_c (by decide) (by decide))
theorem cu_228 (I : MI) (j : Nat) (v : Int32) : co (upI I 228 j v) = upI (co I) 228 j v := co_up (core_c (by decide) (by decide))
theorem cu_229 (I : MI) (j : Nat) (v : Int32) : co (upI I 229 j v) = upI (co I) 229 j v := co_up (core_c (by decide) (by decide))
theorem cu_230 (I : MI) (j : Nat) (v : Int32) : co (upI I 230 j v) = upI (co I) 230 j v := co_up (core_c (by decide) (by decide))
theorem cu_231 (I : MI) (j : Nat) (v : Int32) : co (upI I 231 j v) = upI (co I) 231 j v := co_up (core_c (by decide) (by decide))
theorem cu_232 (I : MI) (j : Nat) (v : Int32) : co (upI I 232 j v) = upI (co I) 232 j v := co_up (core_c (by decide) (by decide))
theorem cu_233 (I : MI) (j : Nat) (v : Int32) : co (upI I 233 j v) = upI (co I) 233 j v := co_up (core_c (by decide) (by decide))
theorem cu_235 (I : MI) (j : Nat) (v : Int32) : co (upI I 235 j v) = upI (co I) 235 j v := co_up (core_c (by decide) (by decide))
theorem cu_236 (I : MI) (j : Nat) (v : Int32) : co (upI I 236 j v) = upI (co I) 236 j v := co_up (core_c (by decide) (by decide))
theorem cu_237 (I : MI) (j : Nat) (v : Int32) : co (upI I 237 j v) = upI (co I) 237 j v := co_up (core_c (by decide) (by decide))
theorem cu_238 (I : MI) (j : Nat) (v : Int32) : co (upI I 238 j v) = upI (co I) 238 j v := co_up (core_c (by decide) (by decide))
theorem cu_239 (I : MI) (j : Nat) (v : Int32) : co (upI I 239 j v) = upI (co I) 239 j v := co_up (core_c (by decide) (by decide))
theorem cu_242 (I : MI) (j : Nat) (v : Int32) : co (upI I 242 j v) = upI (co I) 242 j v := co_up (core_c (by decide) (by decide))
theorem cu_243 (I : MI) (j : Nat) (v : Int32) : co (upI I 243 j v) = upI (co I) 243 j v := co_up (core_c (by decide) (by decide))
theorem cu_244 (I : MI) (j : Nat) (v : Int32) : co (upI I 244 j v) = upI (co I) 244 j v := co_up (core_c (by decide) (by decide))
theorem co_30_1 (I : MI) : co I 30 1 = I 30 1 := rfl
theorem cu_30_1 (I : MI) (v : Int32) : co (upI I 30 1 v) = upI (co I) 30 1 v := co_up (by decide)
theorem co_30_3 (I : MI) : co I 30 3 = I 30 3 := rfl
theorem cu_30_3 (I : MI) (v : Int32) : co (upI I 30 3 v) = upI (co I) 30 3 v := co_up (by decide)
theorem co_30_22 (I : MI) : co I 30 22 = I 30 22 := rfl
theorem cu_30_22 (I : MI) (v : Int32) : co (upI I 30 22 v) = upI (co I) 30 22 v := co_up (by decide)
theorem co_30_23 (I : MI) : co I 30 23 = I 30 23 := rfl
theorem cu_30_23 (I : MI) (v : Int32) : co (upI I 30 23 v) = upI (co I) 30 23 v := co_up (by decide)
theorem co_30_27 (I : MI) : co I 30 27 = I 30 27 := rfl
theorem cu_30_27 (I : MI) (v : Int32) : co (upI I 30 27 v) = upI (co I) 30 27 v := co_up (by decide)
theorem co_30_34 (I : MI) : co I 30 34 = I 30 34 := rfl
theorem cu_30_34 (I : MI) (v : Int32) : co (upI I 30 34 v) = upI (co I) 30 34 v := co_up (by decide)
theorem co_30_40 (I : MI) : co I 30 40 = I 30 40 := rfl
theorem cu_30_40 (I : MI) (v : Int32) : co (upI I 30 40 v) = upI (co I) 30 40 v := co_up (by decide)
theorem co_30_41 (I : MI) : co I 30 41 = I 30 41 := rfl
theorem cu_30_41 (I : MI) (v : Int32) : co (upI I 30 41 v) = upI (co I) 30 41 v := co_up (by decide)
theorem cu_30_0 (I : MI) (v : Int32) : co (upI I 30 0 v) = co I := co_no (by decide)
theorem cu_30_45 (I : MI) (v : Int32) : co (upI I 30 45 v) = co I := co_no (by decide)
theorem cu_30_51 (I : MI) (v : Int32) : co (upI I 30 51 v) = co I := co_no (by decide)
theorem cu_30_52 (I : MI) (v : Int32) : co (upI I 30 52 v) = co I := co_no (by decide)
theorem cu_246 (I : MI) (j : Nat) (v : Int32) : co (upI I 246 j v) = co I := co_no (by unfold core; omega)
theorem cu_247 (I : MI) (j : Nat) (v : Int32) : co (upI I 247 j v) = co I := co_no (by unfold core; omega)
theorem cu_248 (I : MI) (j : Nat) (v : Int32) : co (upI I 248 j v) = co I := co_no (by unfold core; omega)
theorem cu_249 (I : MI) (j : Nat) (v : Int32) : co (upI I 249 j v) = co I := co_no (by unfold core; omega)
theorem cu_250 (I : MI) (j : Nat) (v : Int32) : co (upI I 250 j v) = co I := co_no (by unfold core; omega)
theorem coL_218 (L : ML) : coL L 218 = L 218 := coL_cell (by decide) (by decide)
theorem cuL_218 (L : ML) (j : Nat) (v : Int64) : coL (upL L 218 j v) = upL (coL L) 218 j v := coL_up (core_c (by decide) (by decide))
theorem coL_219 (L : ML) : coL L 219 = L 219 := coL_cell (by decide) (by decide)
theorem cuL_219 (L : ML) (j : Nat) (v : Int64) : coL (upL L 219 j v) = upL (coL L) 219 j v := coL_up (core_c (by decide) (by decide))
theorem coL_220 (L : ML) : coL L 220 = L 220 := coL_cell (by decide) (by decide)
theorem cuL_220 (L : ML) (j : Nat) (v : Int64) : coL (upL L 220 j v) = upL (coL L) 220 j v := coL_up (core_c (by decide) (by decide))
theorem coL_221 (L : ML) : coL L 221 = L 221 := coL_cell (by decide) (by decide)
theorem cuL_221 (L : ML) (j : Nat) (v : Int64) : coL (upL L 221 j v) = upL (coL L) 221 j v := coL_up (core_c (by decide) (by decide))
theorem coL_225 (L : ML) : coL L 225 = L 225 := coL_cell (by decide) (by decide)
theorem cuL_225 (L : ML) (j : Nat) (v : Int64) : coL (upL L 225 j v) = upL (coL L) 225 j v := coL_up (core_c (by decide) (by decide))
theorem coL_30_2 (L : ML) : coL L 30 2 = L 30 2 := rfl
theorem cuL_30_2 (L : ML) (v : Int64) : coL (upL L 30 2 v) = upL (coL L) 30 2 v := coL_up (by decide)
theorem Inv_co {n : Nat} (I : MI) : Inv n (co I) ↔ Inv n I := by
  unfold Inv InvT InvP InvC InvM InvQ InvB InvS
  simp only [co_204, co_205, co_206, co_207, co_208, co_209, co_210, co_211, co_212, co_213, co_214, co_215, co_216, co_217, co_224, co_226, co_228, co_229, co_230, co_231, co_232, co_233, co_235, co_236, co_237, co_238, co_239, co_242, co_243, co_244, co_30_1, co_30_3, co_30_22, co_30_23, co_30_27, co_30_34, co_30_40, co_30_41]
theorem tr_co (I : MI) : tr (co I) = tr I := rfl
theorem co_log (I : MI) (a b c : Int32) : co (Flog I a b c) = Flog (co I) a b c := by
  unfold Flog Rlog
  simp only [co_204, co_205, co_206, co_207, co_208, co_209, co_210, co_211, co_212, co_213, co_214, co_215, co_216, co_217, co_224, co_226, co_228, co_229, co_230, co_231, co_232, co_233, co_235, co_236, co_237, co_238, co_239, co_242, co_243, co_244, co_30_1, co_30_3, co_30_22, co_30_23, co_30_27, co_30_34, co_30_40, co_30_41, cu_204, cu_205, cu_206, cu_207, cu_208, cu_209, cu_210, cu_211, cu_212, cu_213, cu_214, cu_215, cu_216, cu_217, cu_224, cu_226, cu_228, cu_229, cu_230, cu_231, cu_232, cu_233, cu_235, cu_236, cu_237, cu_238, cu_239, cu_242, cu_243, cu_244, cu_246, cu_247, cu_248, cu_249, cu_250, cu_30_1, cu_30_3, cu_30_22, cu_30_23, cu_30_27, cu_30_34, cu_30_40, cu_30_41, cu_30_0, cu_30_45, cu_30_51, cu_30_52]
theorem co_bec (I : MI) (i : Nat) (s : Int32) : co (Fbec I i s) = Fbec (co I) i s := by
  unfold Fbec
  rw [co_log, cu_208]
theorem co_enq0 (I : MI) (i : Nat) (k x m : Int32) : co (Fenq0 I i k x m) = Fenq0 (co I) i k x m := by
  unfold Fenq0
  simp only [co_204, co_205, co_206, co_207, co_208, co_209, co_210, co_211, co_212, co_213, co_214, co_215, co_216, co_217, co_224, co_226, co_228, co_229, co_230, co_231, co_232, co_233, co_235, co_236, co_237, co_238, co_239, co_242, co_243, co_244, co_30_1, co_30_3, co_30_22, co_30_23, co_30_27, co_30_34, co_30_40, co_30_41, cu_204, cu_205, cu_206, cu_207, cu_208, cu_209, cu_210, cu_211, cu_212, cu_213, cu_214, cu_215, cu_216, cu_217, cu_224, cu_226, cu_228, cu_229, cu_230, cu_231, cu_232, cu_233, cu_235, cu_236, cu_237, cu_238, cu_239, cu_242, cu_243, cu_244, cu_246, cu_247, cu_248, cu_249, cu_250, cu_30_1, cu_30_3, cu_30_22, cu_30_23, cu_30_27, cu_30_34, cu_30_40, cu_30_41, cu_30_0, cu_30_45, cu_30_51, cu_30_52]
theorem co_put (I : MI) (th : Int32) (i : Nat) (k x m v : Int32) : co (Fput I th i k x m v) = Fput (co I) th i k x m v := by
  unfold Fput Fenq rej
  simp only [co_208, co_209]
  split
  · exact co_log _ _ _ _
  · split
    · rw [co_bec, co_enq0]
    · exact co_enq0 _ _ _ _ _
theorem Fcnt_co (I : MI) (i : Nat) : ∀ t, Fcnt (co I) i t = Fcnt I i t
  | 0 => rfl
  | t + 1 => by simp only [Fcnt, Fcnt_co I i t, co_226]
theorem co_sch (I : MI) (th : Int32) (i : Nat) (t : Int32) : co (Fsch I th i t) = Fsch (co I) th i t := by
  have e : co (Fsch0 I i t) = Fsch0 (co I) i t := by
    unfold Fsch0
    simp only [co_204, co_205, co_206, co_207, co_208, co_209, co_210, co_211, co_212, co_213, co_214, co_215, co_216, co_217, co_224, co_226, co_228, co_229, co_230, co_231, co_232, co_233, co_235, co_236, co_237, co_238, co_239, co_242, co_243, co_244, co_30_1, co_30_3, co_30_22, co_30_23, co_30_27, co_30_34, co_30_40, co_30_41, cu_204, cu_205, cu_206, cu_207, cu_208, cu_209, cu_210, cu_211, cu_212, cu_213, cu_214, cu_215, cu_216, cu_217, cu_224, cu_226, cu_228, cu_229, cu_230, cu_231, cu_232, cu_233, cu_235, cu_236, cu_237, cu_238, cu_239, cu_242, cu_243, cu_244, cu_246, cu_247, cu_248, cu_249, cu_250, cu_30_1, cu_30_3, cu_30_22, cu_30_23, cu_30_27, cu_30_34, cu_30_40, cu_30_41, cu_30_0, cu_30_45, cu_30_51, cu_30_52]
  unfold Fsch rejT
  simp only [co_208, co_30_23, Fcnt_co]
  split
  · exact co_log _ _ _ _
  · rw [co_log]
    split
    · rw [co_bec, e]
    · rw [e]
theorem coL_sch (I : MI) (L : ML) (i : Nat) (dl : Int64) : coL (TSch I L i dl) = TSch (co I) (coL L) i dl := by
  unfold TSch rejT
  simp only [co_208, co_30_23, Fcnt_co, coL_30_2]
  split
  · rfl
  · exact cuL_225 _ _ _
theorem co_chS (I : MI) : co (FchS I) = FchS (co I) := cu_30_22 _ _
theorem co_tgtS (I : MI) (b : Int32) : co (FtgtS I b) = FtgtS (co I) b := by
  unfold FtgtS
  split
  · exact co_chS I
  · rfl
theorem co_shut (I : MI) : ∀ k, co (Fshut I k) = Fshut (co I) k
  | 0 => rfl
  | k + 1 => by
    simp only [Fshut, ← co_shut I k, co_208]
    split
    · rw [co_bec]
    · rfl
theorem coL_shut (I : MI) (L : ML) (q t : Int64) : ∀ k, coL (TShut I L q t k) = TShut (co I) (coL L) q t k
  | 0 => rfl
  | k + 1 => by
    simp only [TShut, ← co_shut I k, co_208, ← coL_shut I L q t k, coL_30_2]
    split
    · simp only [cuL_218, cuL_219, cuL_220, cuL_221]
    · rfl
theorem co_fin (I : MI) (p : Nat) (how v : Int32) : co (Ffin I p how v) = Ffin (co I) p how v := by
  unfold Ffin
  simp only [cu_204, cu_205, cu_206, cu_207, cu_208, cu_209, cu_210, cu_211, cu_212, cu_213, cu_214, cu_215, cu_216, cu_217, cu_224, cu_226, cu_228, cu_229, cu_230, cu_231, cu_232, cu_233, cu_235, cu_236, cu_237, cu_238, cu_239, cu_242, cu_243, cu_244, cu_246, cu_247, cu_248, cu_249, cu_250, cu_30_1, cu_30_3, cu_30_22, cu_30_23, cu_30_27, cu_30_34, cu_30_40, cu_30_41, cu_30_0, cu_30_45, cu_30_51, cu_30_52]
theorem co_lis (I : MI) (p t : Nat) : co (Flis I p t) = Flis (co I) p t := by
  unfold Flis
  simp only [co_204, co_205, co_206, co_207, co_208, co_209, co_210, co_211, co_212, co_213, co_214, co_215, co_216, co_217, co_224, co_226, co_228, co_229, co_230, co_231, co_232, co_233, co_235, co_236, co_237, co_238, co_239, co_242, co_243, co_244, co_30_1, co_30_3, co_30_22, co_30_23, co_30_27, co_30_34, co_30_40, co_30_41, cu_204, cu_205, cu_206, cu_207, cu_208, cu_209, cu_210, cu_211, cu_212, cu_213, cu_214, cu_215, cu_216, cu_217, cu_224, cu_226, cu_228, cu_229, cu_230, cu_231, cu_232, cu_233, cu_235, cu_236, cu_237, cu_238, cu_239, cu_242, cu_243, cu_244, cu_246, cu_247, cu_248, cu_249, cu_250, cu_30_1, cu_30_3, cu_30_22, cu_30_23, cu_30_27, cu_30_34, cu_30_40, cu_30_41, cu_30_0, cu_30_45, cu_30_51, cu_30_52]
theorem co_push (I : MI) (D : Nat) (a b c : Int32) : co (Rpush I D a b c) = co I := by
  unfold Rpush
  simp only [cu_204, cu_205, cu_206, cu_207, cu_208, cu_209, cu_210, cu_211, cu_212, cu_213, cu_214, cu_215, cu_216, cu_217, cu_224, cu_226, cu_228, cu_229, cu_230, cu_231, cu_232, cu_233, cu_235, cu_236, cu_237, cu_238, cu_239, cu_242, cu_243, cu_244, cu_246, cu_247, cu_248, cu_249, cu_250, cu_30_1, cu_30_3, cu_30_22, cu_30_23, cu_30_27, cu_30_34, cu_30_40, cu_30_41, cu_30_0, cu_30_45, cu_30_51, cu_30_52]
theorem Fcan_co {n : Nat} (I : MI) (k a b : Int32) : Fcan n (co I) k a b ↔ Fcan n I k a b := Iff.rfl
