/-! ===== the law's loop ===== -/
theorem and31 (x : Int32) : ∃ j, j < 32 ∧ x &&& 31 = nI j := by
  refine ⟨x.toBitVec.toNat % 32, Nat.mod_lt _ (by decide), ?_⟩
  rw [← Int32.toBitVec_inj]
  apply BitVec.eq_of_toNat_eq
  rw [Int32.toBitVec_and, BitVec.toNat_and]
  show x.toBitVec.toNat &&& 31 = (BitVec.ofNat 32 (x.toBitVec.toNat % 32)).toNat
  rw [BitVec.toNat_ofNat, show (31 : Nat) = 2 ^ 5 - 1 from rfl, Nat.and_two_pow_sub_one_eq_mod]
  omega
theorem sub5 {i Ls : Nat} (hL : Ls ≤ 321) (hi : i ≤ 1000) : (nI i > nI Ls - 5) ↔ Ls < i + 5 := by
  rw [gt_iff_lt, Int32.lt_iff_toInt_lt]
  have e : (nI Ls - 5).toInt = (Ls : Int) - 5 := by
    rw [Int32.toInt_sub, nI_toInt (by omega), show (5 : Int32).toInt = 5 from rfl]
    exact Int.bmod_eq_of_le (by omega) (by omega)
  rw [e, nI_toInt (by omega)]
  omega
theorem LI.up {n q : Nat} {I : MI} {L : ML} (h : LI n q I L) : LI n (q + 1) I L := ⟨h.1, h.2.1, by have := h.2.2; omega⟩
section LAWL
variable {l : Launch} {n : Nat} {p : Program} {e : Env} {s : State} {m : MethodId} {args : Array Value} {below : List Frame} {meth : Method} {c : Code} {a : Nat → Nat} {cs : vq_S} {D : va_G} {A : Nat → Prop} {b Ls : Nat} {xs : Nat → Int32} {Z : State → Prop}
set_option maxHeartbeats 4000000 in
theorem law_loop (X : LB l n cs D A p s m args c b Ls xs) (hend : ∀ H locs ls, va_S A s.heap H locs → W p l e room_1 s m args below meth c H locs 600128 7301064 Z (F0 m 1226 ls [])) : ∀ (f i q k sl : Nat) (I : MI) (L : ML) (H : Heap) (locs : List Loc) (ls : Array Slot), Ls < i + 5 * f → i = 5 * q + 1 → i ≤ 326 → k ≤ 1000 + 3 * q → sl ≤ 100000 + 18 * q → LI n q I L → va_P D vwCl (vq_W n a cs I L) H → va_D A (vq_W n a cs I L) → va_S A s.heap H locs → lv_has ls 8 (Lv5 a b i) → W p l e room_1 s m args below meth c H locs k sl Z (F0 m 33 ls []) := by
  intro f
  induction f with
  | zero =>
    intro i q k sl I L H locs ls hf hiq hi hk hs h hP hD hS hl
    have C := X.1
    refine lv_iload C.1 C.2.1 dL_law_33 (lv_at hl 4 rfl) ?_
    refine lv_aload_n C.1 C.2.1 dL_law_35 rfl (lv_at hl 0 rfl) ?_
    refine va_slen C.1 C.2.1 X.2.1 X.2.2.1 X.2.2.2.1 hS dL_law_36 ?_
    refine lv_iconst (v := 5) C.1 C.2.1 dL_law_37 rfl ?_
    refine lv_isub C.1 C.2.1 dL_law_38 ?_
    refine lv_icmp_gt (tgt := 1226) C.1 C.2.1 dL_law_39 rfl (fun _ => ?_) (fun z => absurd ((sub5 X.2.2.2.2.2.2 (by omega)).mpr (by omega)) z)
    exact W.widen (by omega) (by omega) (hend H locs ls hS)
  | succ f ih =>
    intro i q k sl I L H locs ls hf hiq hi hk hs h hP hD hS hl
    have C := X.1
    refine lv_iload C.1 C.2.1 dL_law_33 (lv_at hl 4 rfl) ?_
    refine lv_aload_n C.1 C.2.1 dL_law_35 rfl (lv_at hl 0 rfl) ?_
    refine va_slen C.1 C.2.1 X.2.1 X.2.2.1 X.2.2.2.1 hS dL_law_36 ?_
    refine lv_iconst (v := 5) C.1 C.2.1 dL_law_37 rfl ?_
    refine lv_isub C.1 C.2.1 dL_law_38 ?_
    refine lv_icmp_gt (tgt := 1226) C.1 C.2.1 dL_law_39 rfl (fun _ => ?_) (fun z => ?_)
    · exact W.widen (by omega) (by omega) (hend H locs ls hS)
    · have h321 := X.2.2.2.2.2.2
      have hi4 : i + 4 < Ls := by
        rcases Nat.lt_or_ge Ls (i + 5) with q9 | q9
        · exact absurd ((sub5 h321 (by omega)).mpr q9) z
        · omega
      have hq : q ≤ 64 := by omega
      have hk3 : k + 3 ≤ 600128 := by omega
      have hs3 : sl + 18 ≤ 7301064 := by omega
      have kk : LK l n p e s m args below meth c a cs D A b Z (q + 1) i (k + 3) (sl + 18) := by
        intro I2 L2 H2 locs2 ls2 h2 hP2 hD2 hS2 hl2
        refine lv_iinc (k := 4) (v := nI (i + 5)) (lv' := [(4, .int (nI (i + 5))), (0, .ref b), (1, .ref (a 0)), (2, .ref (a 30)), (3, .ref (a 90))]) C.1 C.2.1 dL_law_1220 hl2 rfl (nI_add i 5) (by decide) rfl (fun ls3 hl3 => ?_)
        refine lv_goto (tgt := 33) C.1 C.2.1 dL_law_1223 rfl ?_
        refine ih (i + 5) (q + 1) (k + 3) (sl + 18) I2 L2 H2 locs2 ls3 (by omega) (by omega) (by omega) (by omega) (by omega) h2 hP2 hD2 hS2 (lv_drop hl3 ?_)
        intro q9 h9
        simp only [Lv5, List.mem_cons, List.not_mem_nil, or_false] at h9 ⊢
        rcases h9 with h9 | h9 | h9 | h9 | h9 <;> simp [h9]
      refine lv_aload_n C.1 C.2.1 dL_law_42 rfl (lv_at hl 0 rfl) ?_
      refine lv_iload C.1 C.2.1 dL_law_43 (lv_at hl 4 rfl) ?_
      obtain ⟨h1, h2⟩ := vq_in (x := nI i) (j := i) rfl (show i < Ls by omega) (by omega)
      refine va_sld C.1 C.2.1 X.2.1 X.2.2.1 X.2.2.2.1 hS h1 dL_law_45 ?_
      rw [h2]
      refine lv_bipush (v := 31) C.1 C.2.1 dL_law_46 rfl ?_
      refine lv_iand C.1 C.2.1 dL_law_48 ?_
      obtain ⟨j, hj, ej⟩ := and31 (xs i)
      rw [ej]
      have hc : j = 0 ∨ j = 1 ∨ j = 2 ∨ j = 3 ∨ j = 4 ∨ j = 5 ∨ j = 6 ∨ j = 7 ∨ j = 8 ∨ j = 9 ∨ j = 10 ∨ j = 11 ∨ j = 12 ∨ j = 13 ∨ j = 14 ∨ j = 15 ∨ j = 16 ∨ j = 17 ∨ 18 ≤ j := by omega
      rcases hc with rfl | rfl | rfl | rfl | rfl | rfl | rfl | rfl | rfl | rfl | rfl | rfl | rfl | rfl | rfl | rfl | rfl | rfl | hj18
      · exact lv_tableIn (tgt := 136) C.1 C.2.1 dL_law_49 (by decide) (by decide) rfl rfl (lc_task X hi4 hq hk3 hs3 h hP hD hS hl kk)
      · exact lv_tableIn (tgt := 180) C.1 C.2.1 dL_law_49 (by decide) (by decide) rfl rfl (lc_order X hi4 hq hk3 hs3 h hP hD hS hl kk)
      · exact lv_tableIn (tgt := 272) C.1 C.2.1 dL_law_49 (by decide) (by decide) rfl rfl (lc_promise X hi4 hq hk3 hs3 h hP hD hS hl kk)
      · exact lv_tableIn (tgt := 328) C.1 C.2.1 dL_law_49 (by decide) (by decide) rfl rfl (lc_channels X hi4 hq hk3 hs3 h hP hD hS hl kk)
      · exact lv_tableIn (tgt := 396) C.1 C.2.1 dL_law_49 (by decide) (by decide) rfl rfl (lc_handler X hi4 hq hk3 hs3 h hP hD hS hl kk)
      · exact lv_tableIn (tgt := 488) C.1 C.2.1 dL_law_49 (by decide) (by decide) rfl rfl (lc_advance X hi4 hq hk3 hs3 h hP hD hS hl kk)
      · exact lv_tableIn (tgt := 543) C.1 C.2.1 dL_law_49 (by decide) (by decide) rfl rfl (lc_execute X hi4 hq hk3 hs3 h hP hD hS hl kk)
      · exact lv_tableIn (tgt := 611) C.1 C.2.1 dL_law_49 (by decide) (by decide) rfl rfl (lc_timer X hi4 hq hk3 hs3 h hP hD hS hl kk)
      · exact lv_tableIn (tgt := 691) C.1 C.2.1 dL_law_49 (by decide) (by decide) rfl rfl (lc_cancel X hi4 hq hk3 hs3 h hP hD hS hl kk)
      · exact lv_tableIn (tgt := 716) C.1 C.2.1 dL_law_49 (by decide) (by decide) rfl rfl (lc_complete X hi4 hq hk3 hs3 h hP hD hS hl kk)
      · exact lv_tableIn (tgt := 803) C.1 C.2.1 dL_law_49 (by decide) (by decide) rfl rfl (lc_listen X hi4 hq hk3 hs3 h hP hD hS hl kk)
      · exact lv_tableIn (tgt := 851) C.1 C.2.1 dL_law_49 (by decide) (by decide) rfl rfl (lc_fire X hi4 hq hk3 hs3 h hP hD hS hl kk)
      · exact lv_tableIn (tgt := 899) C.1 C.2.1 dL_law_49 (by decide) (by decide) rfl rfl (lc_shutdown X hi4 hq hk3 hs3 h hP hD hS hl kk)
      · exact lv_tableIn (tgt := 947) C.1 C.2.1 dL_law_49 (by decide) (by decide) rfl rfl (lc_step X hi4 hq hk3 hs3 h hP hD hS hl kk)
      · exact lv_tableIn (tgt := 1003) C.1 C.2.1 dL_law_49 (by decide) (by decide) rfl rfl (lc_loop X hi4 hq hk3 hs3 h hP hD hS hl kk)
      · exact lv_tableIn (tgt := 1071) C.1 C.2.1 dL_law_49 (by decide) (by decide) rfl rfl (lc_look X hi4 hq hk3 hs3 h hP hD hS hl kk)
      · exact lv_tableIn (tgt := 1139) C.1 C.2.1 dL_law_49 (by decide) (by decide) rfl rfl (lc_traced X hi4 hq hk3 hs3 h hP hD hS hl kk)
      · exact lv_tableIn (tgt := 1152) C.1 C.2.1 dL_law_49 (by decide) (by decide) rfl rfl (lc_trace X hi4 hq hk3 hs3 h hP hD hS hl kk)
      · refine lv_tableOut (tgt := 1220) C.1 C.2.1 dL_law_49 (Or.inr (by rw [nI_toInt (by omega)]; omega)) rfl ?_
        exact W.widen (by omega) (by omega) (kk I L H locs ls h.up hP hD hS hl)
end LAWL
