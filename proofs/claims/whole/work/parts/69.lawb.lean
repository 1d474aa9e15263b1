/-! ===== the law's body: what holds at the head of its loop ===== -/
def LI (n q : Nat) (I : MI) (L : ML) : Prop := (∃ w, CX n (co I) (coL L) w 0 0 I L I L) ∧ HI n (co I) ∧ tr (co I) ≤ 40200 * q
theorem HI_ref {n : Nat} {I I1 : MI} (h : HI n (co I)) (e : co I1 = co I) : Inv n I1 ∧ HK I1 ∧ (∀ i, I1 208 i ≠ 4) ∧ ∀ i, obk I1 i := by
  rw [← e] at h
  obtain ⟨h1, h2, h3, h4, -⟩ := h
  exact ⟨(Inv_co I1).mp h1, h2, h3, h4⟩
theorem LI_next {n q : Nat} {I I1 I2 : MI} {L L1 L2 : ML} {S : MI} {T : ML} (h : LI n q I L) (h1 : HA n I L S T I1 L1) (e : co I2 = S ∧ coL L2 = T) (kI : KI I1 I2) (kL : KL L1 L2) (hg : HG n (co I) S) : LI n (q + 1) I2 L2 := by
  obtain ⟨⟨w, c1⟩, -⟩ := h1
  obtain ⟨rfl, rfl⟩ := e
  refine ⟨⟨w, CX_re c1 (fun i hi => ⟨kI i (fun r => hi (r.elim Or.inl (fun z => Or.inr (Or.inr z)))), kL i (fun r => hi (r.elim Or.inl (fun z => Or.inr (Or.inr z))))⟩)⟩, hg.1, ?_⟩
  have := hg.2
  have := h.2.2
  omega
theorem lv_drop {ls : Array Slot} {nL : Nat} {lv lv' : List (Nat × Value)} (h : lv_has ls nL lv) (hs : ∀ q ∈ lv', q ∈ lv) : lv_has ls nL lv' := ⟨h.1, h.2.1, fun q hq => h.2.2 q (hs q hq)⟩
theorem lg_cmp_self (x : Int64) : lg_cmp x x = 0 := by
  unfold lg_cmp
  simp
section LAWB
variable {l : Launch} {n : Nat} {p : Program} {e : Env} {R : Room} {s : State} {m : MethodId} {args : Array Value} {below : List Frame} {meth : Method} {c : Code} {a : Nat → Nat} {cs : vq_S} {D : va_G} {A : Nat → Prop} {b Ls : Nat} {xs : Nat → Int32} {Z : State → Prop} {H : Heap} {locs : List Loc} {ls : Array Slot} {k sl pc : Nat} {rest : List Value} {I : MI} {L : ML}
/-- the law's body stands -/
def LB (l : Launch) (n : Nat) (cs : vq_S) (D : va_G) (A : Nat → Prop) (p : Program) (s : State) (m : MethodId) (args : Array Value) (c : Code) (b Ls : Nat) (xs : Nat → Int32) : Prop :=
  vl_X cL_law 8 cs D A p s m args c ∧ va_X b Ls xs s s.heap ∧ b < s.heap.size ∧ ¬ A b ∧ l.stackTraces = false ∧ n ≤ 8 ∧ Ls ≤ 321
abbrev Lv5 (a : Nat → Nat) (b i : Nat) : List (Nat × Value) := [(0, .ref b), (1, .ref (a 0)), (2, .ref (a 30)), (3, .ref (a 90)), (4, .int (nI i))]
/-- from the end of a case on -/
def LK (l : Launch) (n : Nat) (p : Program) (e : Env) (s : State) (m : MethodId) (args : Array Value) (below : List Frame) (meth : Method) (c : Code) (a : Nat → Nat) (cs : vq_S) (D : va_G) (A : Nat → Prop) (b : Nat) (Z : State → Prop) (q i k sl : Nat) : Prop :=
  ∀ (I : MI) (L : ML) (H : Heap) (locs : List Loc) (ls : Array Slot), LI n q I L → va_P D vwCl (vq_W n a cs I L) H → va_D A (vq_W n a cs I L) → va_S A s.heap H locs → lv_has ls 8 (Lv5 a b i) → W p l e room_1 s m args below meth c H locs k sl Z (F0 m 1220 ls [])
theorem ls_arg {i j nk : Nat} {z : Int} {lv : List (Nat × Value)} (X : LB l n cs D A p s m args c b Ls xs) (hS : va_S A s.heap H locs) (hl : lv_has ls 8 lv) (k0 : lv[nk]? = some (0, .ref b)) (k4 : lv[nk + 4]? = some (4, .int (nI i))) (hz : Int32.ofInt z = nI j) (hj : j ≤ 4) (hi : i + 4 < Ls) (d0 : decode cL_law pc = .ok (.aload_n 0, 1)) (d1 : decode cL_law (pc + 1) = .ok (.iload 4, 2)) (d3 : decode cL_law (pc + 3) = .ok (.iconst z, 1)) (d4 : decode cL_law (pc + 4) = .ok (.iadd, 1)) (d5 : decode cL_law (pc + 5) = .ok (.iaload, 1))
    (kk : W p l e R s m args below meth c H locs k sl Z (F0 m (pc + 6) ls (.int (xs (i + j)) :: rest))) : W p l e R s m args below meth c H locs k sl Z (F0 m pc ls rest) := by
  obtain ⟨C, hX, hb, hA, -, -, h321⟩ := X
  refine lv_aload_n C.1 C.2.1 d0 rfl (lv_at hl nk k0) ?_
  refine lv_iload C.1 C.2.1 d1 (lv_at hl (nk + 4) k4) ?_
  refine lv_iconst C.1 C.2.1 d3 hz ?_
  refine lv_iadd C.1 C.2.1 d4 ?_
  rw [nI_add]
  have hlt : i + j < Ls := by omega
  obtain ⟨h1, h2⟩ := vq_in (x := nI (i + j)) (j := i + j) rfl hlt (by omega)
  refine va_sld C.1 C.2.1 hX hb hA hS h1 d5 ?_
  rw [h2]
  exact kk
theorem vl_calls {y' : vq_M} {hh : vl_H} {na ix d' K' : Nat} {As : List Value} {Q' : vq_R} {cc : ByteArray} {nL : Nat}
    (hok : vl_okS y' hh na) (hlen : As.length = na) (hw : Cond.methodLink RL ix y'.1 ∈ WLA) (hd : decode cc pc = .ok (.invokestatic ix, 3)) (hrest : (rest.map fun v => v.category).sum ≤ 8) (hR : d' + 1 ≤ R.frames ∧ 8 + (y'.2.2.1 + 11) + 64 * d' ≤ R.locals) (hk : k + K' ≤ R.cells ∧ sl + 6 * K' ≤ R.slots) (hr : y'.2.2.2 = some .int) (hM : VHM l n y' hh d' K' As I L Q')
    (C : vl_X cc nL cs D A p s m args c) (hP : va_P D vwCl (vq_W n a cs I L) H) (hD : va_D A (vq_W n a cs I L)) (hS : va_S A s.heap H locs) (hl : ls.size = nL)
    (kk : ∀ r I' L' H1 locs1, Q' (some (.int r)) I' L' → va_P D vwCl (vq_W n a cs I' L') H1 → va_D A (vq_W n a cs I' L') → va_S A s.heap H1 locs1 → W p l e R s m args below meth c H1 locs1 (k + K') (sl + 6 * K') Z (F0 m (pc + 3) ls (.int r :: rest))) :
    W p l e R s m args below meth c H locs k sl Z (F0 m pc ls ((As.map (vq_tr a)).reverse ++ rest)) := by
  obtain ⟨c1, c2, c3, c4, c5, c6, c7, c8, c9, c10⟩ := C
  have hsub := vq_sub hD hS c8
  have hrun : vx_Run p l e R s m args below meth c H locs k sl K' (6 * K') (F0 m pc ls ((As.map (vq_tr a)).reverse ++ rest)) rest (vq_Qc y'.2.2.2 n a cs D (va_A (vq_W n a cs I L) H.size) Q' ((As.map (vq_tr a)).toArray)) (vq_XC n a cs D (va_A (vq_W n a cs I L) H.size) noX) (va_A (vq_W n a cs I L) H.size) := by
    refine vx_runSX (hh := hh) (As := As.map (vq_tr a)) (rest := rest) (y := y'.1) (own := RL) ⟨c1, c2, c3, c4, c5⟩ (hM a cs D H.size) (vx_cwSW na c5 (vl_goodS hok hw) rfl rfl rfl hok.2.2.2 hR) ⟨vl_blind, fun U hU hW => ?_⟩ rfl (by rw [List.length_map]; exact hlen) hl rfl (lv_room hrest) hd hk
    refine ⟨rfl, by rw [hU], ⟨by rw [hU]; exact hP, va_K.moved hW.alike c6, hD.weaken (fun _ _ _ _ => trivial)⟩, ?_, va_Nc.moved hW.alike c9, va_Nc.moved hW.alike c10⟩
    rw [hU]
    exact ((c7.kept hS.2.1).warm hW).narrow hsub
  have hq : vq_Qc y'.2.2.2 n a cs D (va_A (vq_W n a cs I L) H.size) Q' = va_Qi (fun (r : Int32) (u : MI × ML) => Q' (some (.int r)) u.1 u.2) (fun u t => vq_at n a cs D (va_A (vq_W n a cs I L) H.size) u.1 u.2 t) (va_A (vq_W n a cs I L) H.size) := by
    rw [hr]; rfl
  rw [hq] at hrun
  refine vx_calli hrun hS (fun q _ h => hsub q h) hsub (fun q _ h => hsub q h) (fun E ce q9 u t H1 locs1 ht hvm _ hB h1 hk1 hS1 hce hcv hcl9 => hB.1.elim) (fun r u t H1 locs1 ht hvm hp hB h1 hk1 hS1 => ?_)
  exact kk r u.1 u.2 H1 locs1 hp (ht ▸ hB.1) (hB.2.2.weaken (fun _ _ _ h => hsub _ h)) hS1
end LAWB
