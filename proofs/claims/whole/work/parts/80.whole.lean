/-! ===== the law from its start ===== -/
theorem k_cell (l : Launch) (b Ls : Nat) (xs : Nat → Int32) (hL : Ls ≤ 321) : Met l yL_cell (Cond.code yL_cell cL_cell 2 (some .int) :: []) (kc_rm 1 0 0) (va_Pc [.ref b, .int 0] (fun U => va_X b Ls xs U U.heap)) (va_Qi (fun r (_ : Unit) => r = if 0 < Ls then xs 0 else 0) (fun _ _ => True) (fun _ => False)) 0 0 (fun _ => False) := by
  refine Met.ofW (cc := cL_cell) (maxL := 2) (ret := some .int) (by decide) rfl ?_
  intro p e s m args below meth c s₁ B hml hv
  obtain ⟨rfl, hX⟩ := hv
  have hx := B.exec
  have hb := B.bytes
  have hr := B.returns
  have hlocks := B.notSynchronized
  have hl := lv_entry ([.ref b, .int 0]) (n := 2) (Nat.le_of_ble_eq_true rfl)
  rw [lg_entry_eq]
  generalize (lg_sl ([.ref b, .int 0]) ++ List.replicate (2 - (lg_sl ([.ref b, .int 0])).length) Slot.unset).toArray = ls at hl ⊢
  have hl : lv_has ls 2 [(0, .ref b), (1, .int 0)] := hl
  have hS : va_S (fun _ => False) s.heap s.heap [] := va_S.rf
  have hbl : b < s.heap.size := by
    obtain ⟨scr, h1, -⟩ := hX
    exact (Array.getElem?_eq_some_iff.mp h1).1
  refine lv_iload_n hx hb dL_cell_0 rfl (lv_at hl 1 rfl) ?_
  refine lv_aload_n hx hb dL_cell_1 rfl (lv_at hl 0 rfl) ?_
  refine va_slen hx hb hX hbl (fun h => h) hS dL_cell_2 ?_
  refine lv_icmp_ge (tgt := 12) hx hb dL_cell_3 rfl (fun z => ?_) (fun z => ?_)
  · have h0 : Ls = 0 := by
      have := (nI_leI (a := Ls) (b := 0) (by omega) (by decide)).mp z
      omega
    refine lv_iconst (v := 0) hx hb dL_cell_12 rfl ?_
    exact W.iret hx hb hr (fun t ht hW => ⟨⟨0, (), rfl, by rw [h0]; rfl, trivial⟩, hS.F ht⟩) hS.2.2 dL_cell_13 hlocks
  · have h0 : 0 < Ls := by
      rcases Nat.eq_zero_or_pos Ls with h | h
      · exact absurd ((nI_leI (a := Ls) (b := 0) (by omega) (by decide)).mpr (by omega)) z
      · exact h
    refine lv_aload_n hx hb dL_cell_6 rfl (lv_at hl 0 rfl) ?_
    refine lv_iload_n hx hb dL_cell_7 rfl (lv_at hl 1 rfl) ?_
    obtain ⟨g1, g2⟩ := vq_in (x := 0) (j := 0) rfl h0 (show Ls < 2 ^ 31 by omega)
    refine va_sld hx hb hX hbl (fun h => h) hS g1 dL_cell_8 ?_
    rw [g2]
    refine lv_goto (tgt := 13) hx hb dL_cell_9 rfl ?_
    exact W.iret hx hb hr (fun t ht hW => ⟨⟨xs 0, (), rfl, by rw [if_pos h0], trivial⟩, hS.F ht⟩) hS.2.2 dL_cell_13 hlocks
theorem cell_blind {b Ls : Nat} {xs : Nat → Int32} : FrameBlind (va_Pc [.ref b, .int 0] (fun U => va_X b Ls xs U U.heap)) := by
  intro v U g mk h
  exact ⟨h.1, va_X.moved (u := U) (U := U.calling g mk v) (Vm.Alike.refl U.vm) h.2⟩
theorem cell_good : GoodIn WLA (va_wsS RL 71 yL_cell (Cond.code yL_cell cL_cell 2 (some .int) :: [])) := by
  intro w h
  have hm : w ∈ WLA := by
    rcases List.mem_append.mp h with h | h
    · simp only [List.mem_cons, List.not_mem_nil, or_false] at h
      rcases h with rfl | rfl | rfl
      · exact kL_71
      · exact st_yL_cell
      · exact ini_RL
    · simp only [List.mem_cons, List.not_mem_nil, or_false] at h
      rw [h]
      exact cd_yL_cell
  exact ⟨hm, vl_gd hm⟩
theorem kn_cell {l : Launch} {p : Program} {e : Env} {s : State} {m : MethodId} {args : Array Value} {below : List Frame} {meth : Method} {c : Code} {cs : vq_S} {D : va_G} {A : Nat → Prop} {H : Heap} {locs : List Loc} {ls : Array Slot} {rest : List Value} {pc k sl b Ls : Nat} {xs : Nat → Int32} {Z : State → Prop} {ws : va_W} (hL : Ls ≤ 321) (C : kc_X RL cL_law 8 cs D A p s m args c) (hX : va_X b Ls xs s s.heap) (hb : b < s.heap.size) (hA : ¬ A b) (hP : va_P D vwCl ws H) (hD : va_D A ws) (hS : va_S A s.heap H locs) (hl : ls.size = 8) (hd : decode cL_law pc = .ok (.invokestatic 71, 3)) (hrest : (rest.map fun v => v.category).sum ≤ 8) (hk : k ≤ 600128) (hs : sl ≤ 7301064)
    (kk : ∀ H locs, va_P D vwCl ws H → va_S A s.heap H locs → W p l e room_1 s m args below meth c H locs k sl Z (F0 m (pc + 3) ls (.int (if 0 < Ls then xs 0 else 0) :: rest))) : W p l e room_1 s m args below meth c H locs k sl Z (F0 m pc ls (.int 0 :: .ref b :: rest)) := by
  refine va_calli (va_runS (As := [.ref b, .int 0]) (rest := rest) ⟨C.1, C.2.1, C.2.2.1, C.2.2.2.1, C.2.2.2.2.1⟩ (k_cell l b Ls xs hL) (va_cwS 2 C.2.2.2.2.1 cell_good rfl rfl rfl (by decide) ⟨by decide, by decide⟩) ⟨cell_blind, fun U hU hW => ⟨rfl, ?_⟩⟩ rfl rfl hl rfl (lv_room hrest) hd ⟨hk, hs⟩) hS (fun q _ h => h.elim) (fun q h => h.elim) (fun r u t H1 locs1 ht hvm hp hB h1 hk1 hS1 => ?_)
  · show va_X b Ls xs U U.heap
    rw [hU]
    exact va_X.moved hW.alike (hX.kept (hS.2.1 b hb hA))
  · rw [hp]
    exact kk H1 locs1 (hP.kept (fun k x hx => hk1 x.1 ((hP k x hx).lt) (fun h => h))) hS1
set_option maxHeartbeats 8000000 in
set_option maxRecDepth 100000 in
theorem whole_start {p : Program} {e : Env} {s : State} {m : MethodId} {below : List Frame} {meth : Method} {c : Code} (l : Launch) (hl9 : l.stackTraces = false) {b L : Nat} {xs : Nat → Int32} (hL : L ≤ 321) (C0 : lw_At p s m meth c b L xs) : W p l e room_1 s m #[Value.ref b] below meth c s.heap [] 0 0 (lw_Z below #[Value.ref b] s) (entryFrame m ([Value.ref b] : List Value).toArray 8) := by
  obtain ⟨cs, D, C, hE, hn1, hn2⟩ := law_ctx C0
  obtain ⟨h1, h2, h3, h4, h5, h6, hX, hb, hlk, hgv⟩ := id C0
  have hl := lv_entry ([Value.ref b]) (n := 8) (Nat.le_of_ble_eq_true rfl)
  rw [lg_entry_eq]
  generalize (lg_sl ([Value.ref b]) ++ List.replicate (8 - (lg_sl ([Value.ref b])).length) Slot.unset).toArray = ls at hl ⊢
  have hl : lv_has ls 8 [(0, .ref b)] := hl
  have hbA : ¬ s.heap.size ≤ b := by omega
  have hS : va_S (fun q => s.heap.size ≤ q) s.heap s.heap [] := va_S.rf
  have hP : va_P D vwCl [] s.heap := fun k q h => by simp at h
  have hD : va_D (fun q => s.heap.size ≤ q) [] := ⟨fun i j y z h => by simp at h, fun k q h => by simp at h⟩
  refine kn_new 9 [.null, .null, .null, .null, .null, .null] (by decide) C hP hD hS qL_8 instX9 ini9 (by decide) (by decide) (by decide) dL_law_0 (fun x H hP hD hS => ?_)
  refine lv_dup C.1 C.2.1 dL_law_3 rfl ?_
  refine lv_aload_n C.1 C.2.1 dL_law_4 rfl (lv_at hl 0 rfl) ?_
  refine lv_iconst (v := 0) C.1 C.2.1 dL_law_5 rfl ?_
  refine kn_cell hL C hX hb hbA hP hD hS hl.1 dL_law_6 (Nat.le_of_ble_eq_true rfl) (by decide) (by decide) (fun H locs hP hS => ?_)
  generalize hx0 : (if 0 < L then xs 0 else 0) = x0
  refine kn_call (na := 1) (wr := []) (As := [.int x0]) (rest := [.ref x]) (k_init9 l 200 x0 (by decide)) rfl rfl rfl (by decide) cd_yX9_init ini9 kL_77 im_yX9_init dL_law_9 (Nat.le_of_ble_eq_true rfl) ⟨by decide, by decide⟩ ⟨by decide, by decide⟩ C hP hD hS hl.1 (fun fs tl H locs hp hP hD hS => ?_)
  obtain ⟨r9, k, k0, k1, k2, k3, p9, p0, p1, p2, p3, p4, p5, c9, c0, c1, c2, c3, c4, s9, t0, t1, la, f, bl, hbl, hf, rfl, rfl⟩ := hp
  refine lv_astore_n (lv' := [(1, .ref x), (0, .ref b)]) C.1 C.2.1 dL_law_12 rfl hl (by decide) rfl (fun ls hl => ?_)
  refine kn_new 10 [.int 0, .int 0, .long 0, .int 0, .null, .null, .null, .null, .null, .null, .null, .null, .null, .null, .null, .null, .null, .null, .null, .null, .null, .null, .int 0, .int 0, .null, .null, .null, .int 0, .null, .null, .null, .null, .null, .null, .int 0, .null, .null, .null, .null, .null, .int 0, .int 0, .null, .null, .null, .int 0, .null, .null, .null, .null, .null, .int 0, .int 0] (by decide) C hP hD hS qL_80 instX10 ini10 (by decide) (by decide) (by decide) dL_law_13 (fun mr H hP hD hS => ?_)
  refine lv_dup C.1 C.2.1 dL_law_16 rfl ?_
  refine lv_aload_n C.1 C.2.1 dL_law_17 rfl (lv_at hl 1 rfl) ?_
  refine lv_iconst (v := 0) C.1 C.2.1 dL_law_18 rfl ?_
  refine kn_cell hL C hX hb hbA hP hD hS hl.1 dL_law_19 (Nat.le_of_ble_eq_true rfl) (by decide) (by decide) (fun H locs hP hS => ?_)
  rw [hx0]
  refine kn_call (na := 1) (As := [.int x0]) (rest := [.ref mr]) (k_init10 l 200 x0 (by decide)) rfl rfl rfl (by decide) cd_yX10_init ini10 kL_82 im_yX10_init dL_law_22 (Nat.le_of_ble_eq_true rfl) ⟨by decide, by decide⟩ ⟨by decide, by decide⟩ C hP hD hS hl.1 (fun fs tl H locs hp hP hD hS => ?_)
  obtain ⟨b10, rfl, rfl⟩ := hp
  refine lv_astore_n (lv' := [(2, .ref mr), (1, .ref x), (0, .ref b)]) C.1 C.2.1 dL_law_25 rfl hl (by decide) rfl (fun ls hl => ?_)
  refine lv_iconst (v := 1) C.1 C.2.1 dL_law_26 rfl ?_
  refine kn_newL C hP hD hS 1 (by decide) rfl (by decide) (by decide) (by decide) dL_law_27 (fun o H hP hD hS => ?_)
  refine lv_astore_n (lv' := [(3, .ref o), (2, .ref mr), (1, .ref x), (0, .ref b)]) C.1 C.2.1 dL_law_29 rfl hl (by decide) rfl (fun ls hl => ?_)
  refine lv_iconst (v := 1) C.1 C.2.1 dL_law_30 rfl ?_
  refine lv_istore (lv' := [(4, .int (nI 1)), (3, .ref o), (2, .ref mr), (1, .ref x), (0, .ref b)]) C.1 C.2.1 dL_law_31 hl (by decide) rfl (fun ls hl => ?_)
  have hn := nOf_le x0
  generalize nOf x0 = n at hP hD hbl hf hn ⊢
  have hP : va_P D vwCl ([(x, .inr (9, [.ref r9, .ref s9, .ref t0, .ref k, .ref p9, .ref c9])), (r9, .inr (4, [.ref k, .ref p9, .ref c9, .ref s9, .ref t0, .int 0, .int 0, .int 0])), (k, .inr (6, [.ref k0, .ref k1, .ref k2, .ref k3, .int 0])), (k0, zI cs 24), (k1, zI cs 192), (k2, zI cs 192), (k3, zI cs 192), (p9, .inr (2, [.ref p0, .ref p1, .ref p2, .ref p3, .ref p4, .ref p5, .int 0])), (p0, zI cs 32), (p1, zI cs 32), (p2, zI cs 32), (p3, zZ cs 32), (p4, zI cs 32), (p5, zI cs 192), (c9, .inr (0, [.ref c0, .ref c1, .ref c2, .ref c3, .ref c4, .int 0, .int 0])), (c0, zI cs 16), (c1, zI cs 16), (c2, zI cs 96), (c3, zI cs 96), (c4, zI cs 96), (s9, .inr (5, [.ref t0, .ref la, .long 0, .int 0, .int 0])), (t0, .inr (8, [.ref t1, .int 0])), (t1, zI cs 900)] ++ ((la, zR cs n f) :: bl.flatMap (LW cs)) ++ ((mr, .inr (10, fs10 n b10)) :: tl10 cs b10) ++ [(o, zL cs 1)]) H := hP
  have hD : va_D (fun q => s.heap.size ≤ q) ([(x, .inr (9, [.ref r9, .ref s9, .ref t0, .ref k, .ref p9, .ref c9])), (r9, .inr (4, [.ref k, .ref p9, .ref c9, .ref s9, .ref t0, .int 0, .int 0, .int 0])), (k, .inr (6, [.ref k0, .ref k1, .ref k2, .ref k3, .int 0])), (k0, zI cs 24), (k1, zI cs 192), (k2, zI cs 192), (k3, zI cs 192), (p9, .inr (2, [.ref p0, .ref p1, .ref p2, .ref p3, .ref p4, .ref p5, .int 0])), (p0, zI cs 32), (p1, zI cs 32), (p2, zI cs 32), (p3, zZ cs 32), (p4, zI cs 32), (p5, zI cs 192), (c9, .inr (0, [.ref c0, .ref c1, .ref c2, .ref c3, .ref c4, .int 0, .int 0])), (c0, zI cs 16), (c1, zI cs 16), (c2, zI cs 96), (c3, zI cs 96), (c4, zI cs 96), (s9, .inr (5, [.ref t0, .ref la, .long 0, .int 0, .int 0])), (t0, .inr (8, [.ref t1, .int 0])), (t1, zI cs 900)] ++ ((la, zR cs n f) :: bl.flatMap (LW cs)) ++ ((mr, .inr (10, fs10 n b10)) :: tl10 cs b10) ++ [(o, zL cs 1)]) := hD
  obtain ⟨a, ha0, ha30, ha90, hPW, hDW⟩ := glue hn.2 hbl hf hP hD
  rw [← ha0, ← ha30, ← ha90] at hl
  refine law_loop (a := a) ⟨⟨C.1, C.2.1, C.2.2.1, C.2.2.2.1, C.2.2.2.2.1, C.2.2.2.2.2.1, hE, C.2.2.2.2.2.2.2, hn1, hn2⟩, hX, hb, hbA, hl9, hn.2, hL⟩ (fun H locs ls hS => ?_) 65 1 0 _ _ (I0 n) L0 H _ ls (by omega) (by omega) (by omega) (Nat.le_of_ble_eq_true rfl) (Nat.le_of_ble_eq_true rfl) (LI_I0 hn) hPW hDW hS (lv_drop hl ?_)
  · refine va_forget hS.2.2 ?_
    refine lv_iconst (v := 1) C.1 C.2.1 dL_law_1226 rfl ?_
    exact lw_ret h1 h2 h3 hlk dL_law_1227
  · intro q9 h9
    simp only [Lv5, List.mem_cons, List.not_mem_nil, or_false] at h9 ⊢
    rcases h9 with h9 | h9 | h9 | h9 | h9 <;> simp [h9]
