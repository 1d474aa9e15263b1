/-! ===== constructors that make objects ===== -/
abbrev fsL (b : Nat → Nat) : List Value := [.ref (b 1), .ref (b 2), .int 1, .int 0, .int (-1), .int 0, .int 0, .int 0, .int 0, .long 0, .long 0]
abbrev tlL (cs : vq_S) (b : Nat → Nat) : va_W := [(b 1, .inr (3, [.ref (b 3), .ref (b 4), .ref (b 5), .int 0, .int 0])), (b 3, zI cs 24), (b 4, zI cs 24), (b 5, zI cs 24), (b 2, .inr (7, [.ref (b 6), .ref (b 7), .ref (b 8), .int 0])), (b 6, zI cs 24), (b 7, zI cs 24), (b 8, zL cs 24)]
def LW (cs : vq_S) (b : Nat → Nat) : va_W := (b 0, .inr (1, fsL b)) :: tlL cs b
def Ps1 (cs : vq_S) (h0 : Nat) (fs : List Value) (tl : va_W) : Prop := ∃ b : Nat → Nat, b 0 = h0 ∧ fs = fsL b ∧ tl = tlL cs b
def Ps5 (n : Nat) (cs : vq_S) (h0 : Nat) (fs : List Value) (tl : va_W) : Prop := ∃ (t0 t1 la : Nat) (f : Nat → Option Nat) (bl : List (Nat → Nat)), bl.length = n ∧ (∀ j, j < n → f j = some (bl.getD j (fun _ => 0) 0)) ∧ fs = [.ref t0, .ref la, .long 0, .int 0, .int 0] ∧ tl = (t0, .inr (8, [.ref t1, .int 0])) :: (t1, zI cs 900) :: (la, zR cs n f) :: bl.flatMap (LW cs)
section KCB
variable (l : Launch) (d : Nat)
theorem kn_aast {l : Launch} {R : Room} {p : Program} {e : Env} {s : State} {m : MethodId} {args : Array Value} {below : List Frame} {meth : Method} {c : Code} {cs : vq_S} {D : va_G} {A : Nat → Prop} {H : Heap} {locs : List Loc} {ls : Array Slot} {rest : List Value} {own : String} {cc : ByteArray} {nL pc k sl : Nat} {Z : State → Prop} {ws : va_W} (C : kc_X own cc nL cs D A p s m args c) (hP : va_P D vwCl ws H) (hD : va_D A ws) (hS : va_S A s.heap H locs) (q0 qk j : Nat) {la v N : Nat} {f : Nat → Option Nat} {vs : List Value} (ha : ws[q0]? = some (la, zR cs N f)) (hv : ws[qk]? = some (v, .inr (1, vs))) (hj : j < N) (hN : N < 2 ^ 31) (hd : decode cc pc = .ok (.aastore, 1))
    (kk : ∀ H locs, va_P D vwCl (ws.set q0 (la, zR cs N (va_up f j (some v)))) H → va_D A (ws.set q0 (la, zR cs N (va_up f j (some v)))) → va_S A s.heap H locs → W p l e R s m args below meth c H locs k sl Z (F0 m (pc + 1) ls rest)) : W p l e R s m args below meth c H locs k sl Z (F0 m pc ls (.ref v :: .int (nI j) :: .ref la :: rest)) := by
  obtain ⟨h1, h2⟩ := vq_in (x := nI j) (j := j) rfl hj hN
  refine va_astq C.1 C.2.1 C.2.2.2.2.2.1 hP hD hS q0 3 qk 1 (r := vq_cl 1) ha rfl hv (vq_clg 1 (by decide)) h1 hd (fun H1 locs1 hP1 hD1 hS1 => ?_)
  rw [h2] at hP1 hD1
  exact kk H1 locs1 hP1 hD1 hS1
set_option maxHeartbeats 4000000 in
theorem k_init1 (hd : 2 ≤ d) : KC l m_X1_init d 8 153 1 [.null, .null, .int 0, .int 0, .int 0, .int 0, .int 0, .int 0, .int 0, .long 0, .long 0] [] Ps1 := by
  obtain ⟨d', rfl⟩ : ∃ d', d = d' + 1 := ⟨d - 1, by omega⟩
  refine KC_of (fun h0 => [(0, .ref h0)]) (by decide) rfl rfl (fun h0 => Nat.le_of_ble_eq_true rfl) (fun h0 => rfl) ?_
  intro p e s m args below meth c h0 cs D A ls C hr hlk hin hP hD hS hl
  refine lv_aload_n C.1 C.2.1 dX1_init_0 rfl (lv_at hl 0 rfl) ?_
  refine kn_obj C hl.1 kX1_3 im_objectInit cd_objectInit dX1_init_1 (by show 1 ≤ _ + 1; omega) (by show 0 + 12 ≤ 64 * (_ + 1); omega) ?_
  refine lv_aload_n C.1 C.2.1 dX1_init_4 rfl (lv_at hl 0 rfl) ?_
  refine kn_new 3 [.null, .null, .null, .int 0, .int 0] (by decide) C hP hD hS qX1_9 instX3 ini3 (by decide) (by first | exact Nat.le_of_ble_eq_true rfl | (show _ + 1 ≤ _; omega)) (by first | exact Nat.le_of_ble_eq_true rfl | (show _ + _ ≤ _; simp only [vq_cl]; omega)) dX1_init_5 (fun q1 H hP hD hS => ?_)
  refine lv_dup C.1 C.2.1 dX1_init_8 rfl ?_
  refine kn_callN (na := 0) (As := []) (rest := [.ref q1, .ref h0]) (k_init3 l d' (by omega)) rfl rfl rfl (by decide) cd_yX3_init ini3 (List.mem_of_getElem? (i := 0) rfl) im_yX3_init dX1_init_9 (Nat.le_of_ble_eq_true rfl) ⟨by show _ + 1 ≤ _ + 1; omega, by show 8 + (_ + 11) + 64 * _ ≤ 64 * (_ + 1); simp only; omega⟩ ⟨by first | exact Nat.le_of_ble_eq_true rfl | (show _ + _ ≤ _; omega), by first | exact Nat.le_of_ble_eq_true rfl | (show _ + _ ≤ _; omega)⟩ C hP hD hS hl.1 (fun fs tl H locs hp hP hD hS => ?_)
  obtain ⟨x3, x4, x5, rfl, rfl⟩ := hp
  have hP : va_P D vwCl [(h0, .inr (1, [.null, .null, .int 0, .int 0, .int 0, .int 0, .int 0, .int 0, .int 0, .long 0, .long 0])), (q1, .inr (3, [.ref x3, .ref x4, .ref x5, .int 0, .int 0])), (x3, zI cs 24), (x4, zI cs 24), (x5, zI cs 24)] H := hP
  have hD : va_D A [(h0, .inr (1, [.null, .null, .int 0, .int 0, .int 0, .int 0, .int 0, .int 0, .int 0, .long 0, .long 0])), (q1, .inr (3, [.ref x3, .ref x4, .ref x5, .int 0, .int 0])), (x3, zI cs 24), (x4, zI cs 24), (x5, zI cs 24)] := hD
  refine kn_putF (ty := vq_tyf 1 0) 0 1 0 (by decide) C hin hP hD hS rfl (by decide) rfl rfl rfl rfl rfl (Nat.le_of_ble_eq_true rfl) gX1_12 dX1_init_12 (fun H locs hP hD hS => ?_)
  have hP : va_P D vwCl [(h0, .inr (1, [.ref q1, .null, .int 0, .int 0, .int 0, .int 0, .int 0, .int 0, .int 0, .long 0, .long 0])), (q1, .inr (3, [.ref x3, .ref x4, .ref x5, .int 0, .int 0])), (x3, zI cs 24), (x4, zI cs 24), (x5, zI cs 24)] H := hP
  have hD : va_D A [(h0, .inr (1, [.ref q1, .null, .int 0, .int 0, .int 0, .int 0, .int 0, .int 0, .int 0, .long 0, .long 0])), (q1, .inr (3, [.ref x3, .ref x4, .ref x5, .int 0, .int 0])), (x3, zI cs 24), (x4, zI cs 24), (x5, zI cs 24)] := hD
  refine lv_aload_n C.1 C.2.1 dX1_init_15 rfl (lv_at hl 0 rfl) ?_
  refine kn_new 7 [.null, .null, .null, .int 0] (by decide) C hP hD hS qX1_18 instX7 ini7 (by decide) (by first | exact Nat.le_of_ble_eq_true rfl | (show _ + 1 ≤ _; omega)) (by first | exact Nat.le_of_ble_eq_true rfl | (show _ + _ ≤ _; simp only [vq_cl]; omega)) dX1_init_16 (fun q2 H hP hD hS => ?_)
  refine lv_dup C.1 C.2.1 dX1_init_19 rfl ?_
  refine kn_callN (na := 0) (As := []) (rest := [.ref q2, .ref h0]) (k_init7 l d' (by omega)) rfl rfl rfl (by decide) cd_yX7_init ini7 (List.mem_of_getElem? (i := 1) rfl) im_yX7_init dX1_init_20 (Nat.le_of_ble_eq_true rfl) ⟨by show _ + 1 ≤ _ + 1; omega, by show 8 + (_ + 11) + 64 * _ ≤ 64 * (_ + 1); simp only; omega⟩ ⟨by first | exact Nat.le_of_ble_eq_true rfl | (show _ + _ ≤ _; omega), by first | exact Nat.le_of_ble_eq_true rfl | (show _ + _ ≤ _; omega)⟩ C hP hD hS hl.1 (fun fs tl H locs hp hP hD hS => ?_)
  obtain ⟨x6, x7, x8, rfl, rfl⟩ := hp
  have hP : va_P D vwCl [(h0, .inr (1, [.ref q1, .null, .int 0, .int 0, .int 0, .int 0, .int 0, .int 0, .int 0, .long 0, .long 0])), (q1, .inr (3, [.ref x3, .ref x4, .ref x5, .int 0, .int 0])), (x3, zI cs 24), (x4, zI cs 24), (x5, zI cs 24), (q2, .inr (7, [.ref x6, .ref x7, .ref x8, .int 0])), (x6, zI cs 24), (x7, zI cs 24), (x8, zL cs 24)] H := hP
  have hD : va_D A [(h0, .inr (1, [.ref q1, .null, .int 0, .int 0, .int 0, .int 0, .int 0, .int 0, .int 0, .long 0, .long 0])), (q1, .inr (3, [.ref x3, .ref x4, .ref x5, .int 0, .int 0])), (x3, zI cs 24), (x4, zI cs 24), (x5, zI cs 24), (q2, .inr (7, [.ref x6, .ref x7, .ref x8, .int 0])), (x6, zI cs 24), (x7, zI cs 24), (x8, zL cs 24)] := hD
  refine kn_putF (ty := vq_tyf 1 1) 0 1 1 (by decide) C hin hP hD hS rfl (by decide) rfl rfl rfl rfl rfl (Nat.le_of_ble_eq_true rfl) gX1_21 dX1_init_23 (fun H locs hP hD hS => ?_)
  have hP : va_P D vwCl [(h0, .inr (1, [.ref q1, .ref q2, .int 0, .int 0, .int 0, .int 0, .int 0, .int 0, .int 0, .long 0, .long 0])), (q1, .inr (3, [.ref x3, .ref x4, .ref x5, .int 0, .int 0])), (x3, zI cs 24), (x4, zI cs 24), (x5, zI cs 24), (q2, .inr (7, [.ref x6, .ref x7, .ref x8, .int 0])), (x6, zI cs 24), (x7, zI cs 24), (x8, zL cs 24)] H := hP
  have hD : va_D A [(h0, .inr (1, [.ref q1, .ref q2, .int 0, .int 0, .int 0, .int 0, .int 0, .int 0, .int 0, .long 0, .long 0])), (q1, .inr (3, [.ref x3, .ref x4, .ref x5, .int 0, .int 0])), (x3, zI cs 24), (x4, zI cs 24), (x5, zI cs 24), (q2, .inr (7, [.ref x6, .ref x7, .ref x8, .int 0])), (x6, zI cs 24), (x7, zI cs 24), (x8, zL cs 24)] := hD
  refine lv_aload_n C.1 C.2.1 dX1_init_26 rfl (lv_at hl 0 rfl) ?_
  refine lv_iconst (v := 1) C.1 C.2.1 dX1_init_27 rfl ?_
  refine kn_put (ty := vq_tyf 1 2) 0 1 2 (by decide) C hP hD hS rfl (by decide) rfl rfl rfl rfl (Nat.le_of_ble_eq_true rfl) gX1_25 dX1_init_28 (fun H locs hP hD hS => ?_)
  have hP : va_P D vwCl [(h0, .inr (1, [.ref q1, .ref q2, .int 1, .int 0, .int 0, .int 0, .int 0, .int 0, .int 0, .long 0, .long 0])), (q1, .inr (3, [.ref x3, .ref x4, .ref x5, .int 0, .int 0])), (x3, zI cs 24), (x4, zI cs 24), (x5, zI cs 24), (q2, .inr (7, [.ref x6, .ref x7, .ref x8, .int 0])), (x6, zI cs 24), (x7, zI cs 24), (x8, zL cs 24)] H := hP
  have hD : va_D A [(h0, .inr (1, [.ref q1, .ref q2, .int 1, .int 0, .int 0, .int 0, .int 0, .int 0, .int 0, .long 0, .long 0])), (q1, .inr (3, [.ref x3, .ref x4, .ref x5, .int 0, .int 0])), (x3, zI cs 24), (x4, zI cs 24), (x5, zI cs 24), (q2, .inr (7, [.ref x6, .ref x7, .ref x8, .int 0])), (x6, zI cs 24), (x7, zI cs 24), (x8, zL cs 24)] := hD
  refine lv_aload_n C.1 C.2.1 dX1_init_31 rfl (lv_at hl 0 rfl) ?_
  refine lv_iconst (v := -1) C.1 C.2.1 dX1_init_32 rfl ?_
  refine kn_put (ty := vq_tyf 1 4) 0 1 4 (by decide) C hP hD hS rfl (by decide) rfl rfl rfl rfl (Nat.le_of_ble_eq_true rfl) gX1_29 dX1_init_33 (fun H locs hP hD hS => ?_)
  have hP : va_P D vwCl [(h0, .inr (1, [.ref q1, .ref q2, .int 1, .int 0, .int (-1), .int 0, .int 0, .int 0, .int 0, .long 0, .long 0])), (q1, .inr (3, [.ref x3, .ref x4, .ref x5, .int 0, .int 0])), (x3, zI cs 24), (x4, zI cs 24), (x5, zI cs 24), (q2, .inr (7, [.ref x6, .ref x7, .ref x8, .int 0])), (x6, zI cs 24), (x7, zI cs 24), (x8, zL cs 24)] H := hP
  have hD : va_D A [(h0, .inr (1, [.ref q1, .ref q2, .int 1, .int 0, .int (-1), .int 0, .int 0, .int 0, .int 0, .long 0, .long 0])), (q1, .inr (3, [.ref x3, .ref x4, .ref x5, .int 0, .int 0])), (x3, zI cs 24), (x4, zI cs 24), (x5, zI cs 24), (q2, .inr (7, [.ref x6, .ref x7, .ref x8, .int 0])), (x6, zI cs 24), (x7, zI cs 24), (x8, zL cs 24)] := hD
  exact kn_ret (tl := [(q1, .inr (3, [.ref x3, .ref x4, .ref x5, .int 0, .int 0])), (x3, zI cs 24), (x4, zI cs 24), (x5, zI cs 24), (q2, .inr (7, [.ref x6, .ref x7, .ref x8, .int 0])), (x6, zI cs 24), (x7, zI cs 24), (x8, zL cs 24)]) C hr hlk dX1_init_36 (Nat.le_of_ble_eq_true rfl) (Nat.le_of_ble_eq_true rfl) hP hD hS ⟨fun j => match j with | 0 => h0 | 1 => q1 | 2 => q2 | 3 => x3 | 4 => x4 | 5 => x5 | 6 => x6 | 7 => x7 | _ => x8, rfl, rfl, rfl⟩
theorem nI_n0 {j : Nat} (h : j < 2 ^ 31) : ¬ nI j < 0 := by
  rw [Int32.lt_iff_toInt_lt, nI_toInt h]
  show ¬ (j : Int) < 0
  omega
theorem qkL (w0 w1 w2 w3 : Nat × va_E) (LS : va_W) (x : Nat × va_E) {tl : va_W} : ((w0 :: w1 :: w2 :: w3 :: LS) ++ x :: tl)[4 + LS.length]? = some x := by
  rw [show 4 + LS.length = (w0 :: w1 :: w2 :: w3 :: LS).length by simp only [List.length_cons]; omega]
  simp
theorem getD_app {bl : List (Nat → Nat)} {b z : Nat → Nat} : ∀ j, (bl ++ [b]).getD j z = if j < bl.length then bl.getD j z else if j = bl.length then b else z := by
  intro j
  by_cases h : j < bl.length
  · rw [if_pos h, List.getD_eq_getElem?_getD, List.getElem?_append_left h, ← List.getD_eq_getElem?_getD]
  · rw [if_neg h, List.getD_eq_getElem?_getD, List.getElem?_append_right (by omega)]
    by_cases h2 : j = bl.length
    · subst h2
      simp
    · rw [if_neg h2, List.getElem?_eq_none (by simp only [List.length_cons, List.length_nil]; omega)]
      rfl
section
variable {n : Nat} {p : Program} {e : Env} {s : State} {m : MethodId} {args : Array Value} {below : List Frame} {meth : Method} {c : Code} {h0 : Nat} {cs : vq_S} {D : va_G} {A : Nat → Prop} {t0 t1 la : Nat}
set_option maxHeartbeats 4000000 in
theorem k_loop5 (hd : 2 ≤ d) (hn : n ≤ 8) (C : kc_X m_X5_init.1.cls m_X5_init.2.1 m_X5_init.2.2.1 cs D A p s m args c) (hr : meth.sig.returnType = none) (hlk : meth.locks = false) : ∀ (r i : Nat) (f : Nat → Option Nat) (bl : List (Nat → Nat)) (H : Heap) (locs : List Loc) (ls : Array Slot), i + r = n → bl.length = i → (∀ j, j < i → f j = some (bl.getD j (fun _ => 0) 0)) →
    va_P D vwCl ((h0, .inr (5, [.ref t0, .ref la, .long 0, .int 0, .int 0])) :: (t0, .inr (8, [.ref t1, .int 0])) :: (t1, zI cs 900) :: (la, zR cs n f) :: bl.flatMap (LW cs)) H → va_D A ((h0, .inr (5, [.ref t0, .ref la, .long 0, .int 0, .int 0])) :: (t0, .inr (8, [.ref t1, .int 0])) :: (t1, zI cs 900) :: (la, zR cs n f) :: bl.flatMap (LW cs)) → va_S A s.heap H locs → lv_has ls m_X5_init.2.2.1 [(2, .int (nI i)), (0, .ref h0), (1, .int (nI n))] →
    W p l e (kc_rm (d + 1) 75 2222) s m args below meth c H locs (3 + 9 * i) (910 + 164 * i) (MQ below (kc_Q cs D h0 5 A (Ps5 n cs h0)) args s 75 2222 A) (F0 m 25 ls []) := by
  intro r
  induction r with
  | zero =>
    intro i f bl H locs ls hi hb hf hP hD hS hl
    have hin : i = n := by omega
    subst hin
    refine lv_iload_n C.1 C.2.1 dX5_init_25 rfl (lv_at hl 0 rfl) ?_
    refine lv_iload_n C.1 C.2.1 dX5_init_26 rfl (lv_at hl 2 rfl) ?_
    refine lv_icmp_ge (tgt := 49) C.1 C.2.1 dX5_init_27 rfl (fun _ => ?_) (fun z => absurd (Int32.le_refl _) z)
    exact kn_ret C hr hlk dX5_init_49 (by omega) (by omega) hP hD hS ⟨t0, t1, la, f, bl, hb, hf, rfl, rfl⟩
  | succ r ih =>
    intro i f bl H locs ls hi hb hf hP hD hS hl
    refine lv_iload_n C.1 C.2.1 dX5_init_25 rfl (lv_at hl 0 rfl) ?_
    refine lv_iload_n C.1 C.2.1 dX5_init_26 rfl (lv_at hl 2 rfl) ?_
    refine lv_icmp_ge (tgt := 49) C.1 C.2.1 dX5_init_27 rfl (fun z => absurd ((nI_leI (by omega) (by omega)).mp z) (by omega)) (fun _ => ?_)
    refine lv_aload_n C.1 C.2.1 dX5_init_30 rfl (lv_at hl 1 rfl) ?_
    refine kn_get 0 5 1 (v := .ref la) (by decide) C hP rfl (by decide) rfl (inWS f_X5_20) dX5_init_31 ?_
    refine lv_iload_n C.1 C.2.1 dX5_init_34 rfl (lv_at hl 0 rfl) ?_
    refine kn_new 1 [.null, .null, .int 0, .int 0, .int 0, .int 0, .int 0, .int 0, .int 0, .long 0, .long 0] (by decide) C hP hD hS qX5_18 instX1 ini1 (by decide) (by show _ + 1 ≤ 75; omega) (by show _ + 11 ≤ 2222; omega) dX5_init_35 (fun q H hP hD hS => ?_)
    refine lv_dup C.1 C.2.1 dX5_init_38 rfl ?_
    refine kn_callN (As := []) (rest := [.ref q, .int (nI i), .ref la]) (k_init1 l d hd) rfl rfl rfl (by decide) cd_yX1_init ini1 (List.mem_of_getElem? (i := 6) rfl) im_yX1_init dX5_init_39 (Nat.le_of_ble_eq_true rfl) ⟨Nat.le_refl _, by show 8 + (1 + 11) + 64 * d ≤ 64 * (d + 1); omega⟩ ⟨by show _ + 8 ≤ 75; omega, by show (_ + 11) + 153 ≤ 2222; omega⟩ C hP hD hS hl.1 (fun fs tl H locs hp hP hD hS => ?_)
    obtain ⟨b, rfl, rfl, rfl⟩ := hp
    refine kn_aast C hP hD hS 3 (4 + (bl.flatMap (LW cs)).length) i (N := n) (f := f) (vs := fsL b) rfl (qkL _ _ _ _ _ _) (by omega) (by omega) dX5_init_42 (fun H locs hP hD hS => ?_)
    refine lv_iinc (k := 0) (v := nI (i + 1)) (lv' := [(2, .int (nI (i + 1))), (0, .ref h0), (1, .int (nI n))]) C.1 C.2.1 dX5_init_43 hl rfl (nI_add i 1) (by decide) rfl (fun ls3 hl3 => ?_)
    refine lv_goto (tgt := 25) C.1 C.2.1 dX5_init_46 rfl ?_
    have e9 : (bl ++ [b]).flatMap (LW cs) = bl.flatMap (LW cs) ++ (b 0, .inr (1, fsL b)) :: tlL cs b := by
      rw [List.flatMap_append]
      simp [LW]
    refine W.widen (k := 3 + 9 * (i + 1)) (n := 910 + 164 * (i + 1)) (by omega) (by show (_ + 11) + 153 ≤ _; omega) ?_
    refine ih (i + 1) (va_up f i (some (b 0))) (bl ++ [b]) H locs ls3 (by omega) (by simp [hb]) (fun j hj => ?_) (by rw [e9]; exact hP) (by rw [e9]; exact hD) hS hl3
    rw [getD_app, hb]
    by_cases h : j < i
    · rw [if_pos h, ← hf j h]
      simp [va_up, show j ≠ i by omega]
    · have hji : j = i := by omega
      subst hji
      simp [va_up]
end
set_option maxHeartbeats 4000000 in
theorem k_init5 {n : Nat} (hn : n ≤ 8) (hd : 3 ≤ d) : KC l m_X5_init d 75 2222 5 [.null, .null, .long 0, .int 0, .int 0] [.int (nI n)] (Ps5 n) := by
  obtain ⟨d', rfl⟩ : ∃ d', d = d' + 1 := ⟨d - 1, by omega⟩
  refine KC_of (fun h0 => [(0, .ref h0), (1, .int (nI n))]) (by decide) rfl rfl (fun h0 => Nat.le_of_ble_eq_true rfl) (fun h0 => rfl) ?_
  intro p e s m args below meth c h0 cs D A ls C hr hlk hin hP hD hS hl
  refine lv_aload_n C.1 C.2.1 dX5_init_0 rfl (lv_at hl 0 rfl) ?_
  refine kn_obj C hl.1 kX5_3 im_objectInit cd_objectInit dX5_init_1 (by show 1 ≤ _ + 1; omega) (by show 0 + 12 ≤ 64 * (_ + 1); omega) ?_
  refine lv_aload_n C.1 C.2.1 dX5_init_4 rfl (lv_at hl 0 rfl) ?_
  refine kn_new 8 [.null, .int 0] (by decide) C hP hD hS qX5_9 instX8 ini8 (by decide) (by first | exact Nat.le_of_ble_eq_true rfl | (show _ + 1 ≤ _; omega)) (by first | exact Nat.le_of_ble_eq_true rfl | (show _ + _ ≤ _; simp only [vq_cl]; omega)) dX5_init_5 (fun t0 H hP hD hS => ?_)
  refine lv_dup C.1 C.2.1 dX5_init_8 rfl ?_
  refine kn_callN (na := 0) (As := []) (rest := [.ref t0, .ref h0]) (k_init8 l d' (by omega)) rfl rfl rfl (by decide) cd_yX8_init ini8 (List.mem_of_getElem? (i := 5) rfl) im_yX8_init dX5_init_9 (Nat.le_of_ble_eq_true rfl) ⟨by show _ + 1 ≤ _ + 1; omega, by show 8 + (_ + 11) + 64 * _ ≤ 64 * (_ + 1); simp only; omega⟩ ⟨by first | exact Nat.le_of_ble_eq_true rfl | (show _ + _ ≤ _; omega), by first | exact Nat.le_of_ble_eq_true rfl | (show _ + _ ≤ _; omega)⟩ C hP hD hS hl.1 (fun fs tl H locs hp hP hD hS => ?_)
  obtain ⟨t1, rfl, rfl⟩ := hp
  have hP : va_P D vwCl [(h0, .inr (5, [.null, .null, .long 0, .int 0, .int 0])), (t0, .inr (8, [.ref t1, .int 0])), (t1, zI cs 900)] H := hP
  have hD : va_D A [(h0, .inr (5, [.null, .null, .long 0, .int 0, .int 0])), (t0, .inr (8, [.ref t1, .int 0])), (t1, zI cs 900)] := hD
  refine kn_putF (ty := vq_tyf 5 0) 0 5 0 (by decide) C hin hP hD hS rfl (by decide) rfl rfl rfl rfl rfl (Nat.le_of_ble_eq_true rfl) (inWS f_X5_12) dX5_init_12 (fun H locs hP hD hS => ?_)
  have hP : va_P D vwCl [(h0, .inr (5, [.ref t0, .null, .long 0, .int 0, .int 0])), (t0, .inr (8, [.ref t1, .int 0])), (t1, zI cs 900)] H := hP
  have hD : va_D A [(h0, .inr (5, [.ref t0, .null, .long 0, .int 0, .int 0])), (t0, .inr (8, [.ref t1, .int 0])), (t1, zI cs 900)] := hD
  refine lv_aload_n C.1 C.2.1 dX5_init_15 rfl (lv_at hl 0 rfl) ?_
  refine lv_iload_n C.1 C.2.1 dX5_init_16 rfl (lv_at hl 1 rfl) ?_
  refine kn_newR C hP hD hS n qX5_18 (nI_n0 (by omega)) (nI_clamp (by omega)) (by omega) (Nat.le_of_ble_eq_true rfl) (by show 0 + 2 + 900 + n ≤ 2222; omega) dX5_init_17 (fun la H hP hD hS => ?_)
  refine kn_putF (ty := vq_tyf 5 1) 0 5 1 (by decide) C hin hP hD hS rfl (by decide) rfl rfl rfl rfl rfl (Nat.le_of_ble_eq_true rfl) (inWS f_X5_20) dX5_init_20 (fun H locs hP hD hS => ?_)
  have hP : va_P D vwCl [(h0, .inr (5, [.ref t0, .ref la, .long 0, .int 0, .int 0])), (t0, .inr (8, [.ref t1, .int 0])), (t1, zI cs 900), (la, zR cs n (fun _ => none))] H := hP
  have hD : va_D A [(h0, .inr (5, [.ref t0, .ref la, .long 0, .int 0, .int 0])), (t0, .inr (8, [.ref t1, .int 0])), (t1, zI cs 900), (la, zR cs n (fun _ => none))] := hD
  refine lv_iconst (v := 0) C.1 C.2.1 dX5_init_23 rfl ?_
  refine lv_istore_n (lv' := [(2, .int (nI 0)), (0, .ref h0), (1, .int (nI n))]) C.1 C.2.1 dX5_init_24 rfl hl (by decide) rfl (fun ls2 hl2 => ?_)
  refine W.widen (k := 3 + 9 * 0) (n := 910 + 164 * 0) (Nat.le_of_ble_eq_true rfl) (by show 2 + 900 + n ≤ 910; omega) ?_
  exact k_loop5 l d' (by omega) hn C hr hlk n 0 (fun _ => none) [] H _ ls2 (by omega) rfl (fun j hj => absurd hj (Nat.not_lt_zero j)) hP hD hS hl2
def Ps4 (n : Nat) (cs : vq_S) (h0 : Nat) (fs : List Value) (tl : va_W) : Prop := ∃ (k k0 k1 k2 k3 p9 p0 p1 p2 p3 p4 p5 c9 c0 c1 c2 c3 c4 s9 t0 t1 la : Nat) (f : Nat → Option Nat) (bl : List (Nat → Nat)), bl.length = n ∧ (∀ j, j < n → f j = some (bl.getD j (fun _ => 0) 0)) ∧ fs = [.ref k, .ref p9, .ref c9, .ref s9, .ref t0, .int 0, .int 0, .int 0] ∧ tl = (k, .inr (6, [.ref k0, .ref k1, .ref k2, .ref k3, .int 0])) :: (k0, zI cs 24) :: (k1, zI cs 192) :: (k2, zI cs 192) :: (k3, zI cs 192) :: (p9, .inr (2, [.ref p0, .ref p1, .ref p2, .ref p3, .ref p4, .ref p5, .int 0])) :: (p0, zI cs 32) :: (p1, zI cs 32) :: (p2, zI cs 32) :: (p3, zZ cs 32) :: (p4, zI cs 32) :: (p5, zI cs 192) :: (c9, .inr (0, [.ref c0, .ref c1, .ref c2, .ref c3, .ref c4, .int 0, .int 0])) :: (c0, zI cs 16) :: (c1, zI cs 16) :: (c2, zI cs 96) :: (c3, zI cs 96) :: (c4, zI cs 96) :: (s9, .inr (5, [.ref t0, .ref la, .long 0, .int 0, .int 0])) :: (t0, .inr (8, [.ref t1, .int 0])) :: (t1, zI cs 900) :: (la, zR cs n f) :: bl.flatMap (LW cs)
set_option maxHeartbeats 4000000 in
theorem k_init4 {n : Nat} (hn : n ≤ 8) (hd : 4 ≤ d) : KC l m_X4_init d 94 3518 4 [.null, .null, .null, .null, .null, .int 0, .int 0, .int 0] [.int (nI n)] (Ps4 n) := by
  obtain ⟨d', rfl⟩ : ∃ d', d = d' + 1 := ⟨d - 1, by omega⟩
  refine KC_of (fun h0 => [(0, .ref h0), (1, .int (nI n))]) (by decide) rfl rfl (fun h0 => Nat.le_of_ble_eq_true rfl) (fun h0 => rfl) ?_
  intro p e s m args below meth c h0 cs D A ls C hr hlk hin hP hD hS hl
  refine lv_aload_n C.1 C.2.1 dX4_init_0 rfl (lv_at hl 0 rfl) ?_
  refine kn_obj C hl.1 kX4_3 im_objectInit cd_objectInit dX4_init_1 (by show 1 ≤ _ + 1; omega) (by show 0 + 12 ≤ 64 * (_ + 1); omega) ?_
  refine lv_aload_n C.1 C.2.1 dX4_init_4 rfl (lv_at hl 0 rfl) ?_
  refine kn_new 6 [.null, .null, .null, .null, .int 0] (by decide) C hP hD hS qX4_9 instX6 ini6 (by decide) (by first | exact Nat.le_of_ble_eq_true rfl | (show _ + 1 ≤ _; omega)) (by first | exact Nat.le_of_ble_eq_true rfl | (show _ + _ ≤ _; simp only [vq_cl]; omega)) dX4_init_5 (fun k H hP hD hS => ?_)
  refine lv_dup C.1 C.2.1 dX4_init_8 rfl ?_
  refine kn_callN (na := 0) (As := []) (rest := [.ref k, .ref h0]) (k_init6 l d' (by omega)) rfl rfl rfl (by decide) cd_yX6_init ini6 (List.mem_of_getElem? (i := 2) rfl) im_yX6_init dX4_init_9 (Nat.le_of_ble_eq_true rfl) ⟨by show _ + 1 ≤ _ + 1; omega, by show 8 + (_ + 11) + 64 * _ ≤ 64 * (_ + 1); simp only; omega⟩ ⟨by first | exact Nat.le_of_ble_eq_true rfl | (show _ + _ ≤ _; omega), by first | exact Nat.le_of_ble_eq_true rfl | (show _ + _ ≤ _; omega)⟩ C hP hD hS hl.1 (fun fs tl H locs hp hP hD hS => ?_)
  obtain ⟨k0, k1, k2, k3, rfl, rfl⟩ := hp
  have hP : va_P D vwCl [(h0, .inr (4, [.null, .null, .null, .null, .null, .int 0, .int 0, .int 0])), (k, .inr (6, [.ref k0, .ref k1, .ref k2, .ref k3, .int 0])), (k0, zI cs 24), (k1, zI cs 192), (k2, zI cs 192), (k3, zI cs 192)] H := hP
  have hD : va_D A [(h0, .inr (4, [.null, .null, .null, .null, .null, .int 0, .int 0, .int 0])), (k, .inr (6, [.ref k0, .ref k1, .ref k2, .ref k3, .int 0])), (k0, zI cs 24), (k1, zI cs 192), (k2, zI cs 192), (k3, zI cs 192)] := hD
  refine kn_putF (ty := vq_tyf 4 0) 0 4 0 (by decide) C hin hP hD hS rfl (by decide) rfl rfl rfl rfl rfl (Nat.le_of_ble_eq_true rfl) (inWS f_X4_12) dX4_init_12 (fun H locs hP hD hS => ?_)
  have hP : va_P D vwCl [(h0, .inr (4, [.ref k, .null, .null, .null, .null, .int 0, .int 0, .int 0])), (k, .inr (6, [.ref k0, .ref k1, .ref k2, .ref k3, .int 0])), (k0, zI cs 24), (k1, zI cs 192), (k2, zI cs 192), (k3, zI cs 192)] H := hP
  have hD : va_D A [(h0, .inr (4, [.ref k, .null, .null, .null, .null, .int 0, .int 0, .int 0])), (k, .inr (6, [.ref k0, .ref k1, .ref k2, .ref k3, .int 0])), (k0, zI cs 24), (k1, zI cs 192), (k2, zI cs 192), (k3, zI cs 192)] := hD
  refine lv_aload_n C.1 C.2.1 dX4_init_15 rfl (lv_at hl 0 rfl) ?_
  refine kn_new 2 [.null, .null, .null, .null, .null, .null, .int 0] (by decide) C hP hD hS qX4_18 instX2 ini2 (by decide) (by first | exact Nat.le_of_ble_eq_true rfl | (show _ + 1 ≤ _; omega)) (by first | exact Nat.le_of_ble_eq_true rfl | (show _ + _ ≤ _; simp only [vq_cl]; omega)) dX4_init_16 (fun p9 H hP hD hS => ?_)
  refine lv_dup C.1 C.2.1 dX4_init_19 rfl ?_
  refine kn_callN (na := 0) (As := []) (rest := [.ref p9, .ref h0]) (k_init2 l d' (by omega)) rfl rfl rfl (by decide) cd_yX2_init ini2 (List.mem_of_getElem? (i := 3) rfl) im_yX2_init dX4_init_20 (Nat.le_of_ble_eq_true rfl) ⟨by show _ + 1 ≤ _ + 1; omega, by show 8 + (_ + 11) + 64 * _ ≤ 64 * (_ + 1); simp only; omega⟩ ⟨by first | exact Nat.le_of_ble_eq_true rfl | (show _ + _ ≤ _; omega), by first | exact Nat.le_of_ble_eq_true rfl | (show _ + _ ≤ _; omega)⟩ C hP hD hS hl.1 (fun fs tl H locs hp hP hD hS => ?_)
  obtain ⟨p0, p1, p2, p3, p4, p5, rfl, rfl⟩ := hp
  have hP : va_P D vwCl [(h0, .inr (4, [.ref k, .null, .null, .null, .null, .int 0, .int 0, .int 0])), (k, .inr (6, [.ref k0, .ref k1, .ref k2, .ref k3, .int 0])), (k0, zI cs 24), (k1, zI cs 192), (k2, zI cs 192), (k3, zI cs 192), (p9, .inr (2, [.ref p0, .ref p1, .ref p2, .ref p3, .ref p4, .ref p5, .int 0])), (p0, zI cs 32), (p1, zI cs 32), (p2, zI cs 32), (p3, zZ cs 32), (p4, zI cs 32), (p5, zI cs 192)] H := hP
  have hD : va_D A [(h0, .inr (4, [.ref k, .null, .null, .null, .null, .int 0, .int 0, .int 0])), (k, .inr (6, [.ref k0, .ref k1, .ref k2, .ref k3, .int 0])), (k0, zI cs 24), (k1, zI cs 192), (k2, zI cs 192), (k3, zI cs 192), (p9, .inr (2, [.ref p0, .ref p1, .ref p2, .ref p3, .ref p4, .ref p5, .int 0])), (p0, zI cs 32), (p1, zI cs 32), (p2, zI cs 32), (p3, zZ cs 32), (p4, zI cs 32), (p5, zI cs 192)] := hD
  refine kn_putF (ty := vq_tyf 4 1) 0 4 1 (by decide) C hin hP hD hS rfl (by decide) rfl rfl rfl rfl rfl (Nat.le_of_ble_eq_true rfl) (inWS f_X4_21) dX4_init_23 (fun H locs hP hD hS => ?_)
  have hP : va_P D vwCl [(h0, .inr (4, [.ref k, .ref p9, .null, .null, .null, .int 0, .int 0, .int 0])), (k, .inr (6, [.ref k0, .ref k1, .ref k2, .ref k3, .int 0])), (k0, zI cs 24), (k1, zI cs 192), (k2, zI cs 192), (k3, zI cs 192), (p9, .inr (2, [.ref p0, .ref p1, .ref p2, .ref p3, .ref p4, .ref p5, .int 0])), (p0, zI cs 32), (p1, zI cs 32), (p2, zI cs 32), (p3, zZ cs 32), (p4, zI cs 32), (p5, zI cs 192)] H := hP
  have hD : va_D A [(h0, .inr (4, [.ref k, .ref p9, .null, .null, .null, .int 0, .int 0, .int 0])), (k, .inr (6, [.ref k0, .ref k1, .ref k2, .ref k3, .int 0])), (k0, zI cs 24), (k1, zI cs 192), (k2, zI cs 192), (k3, zI cs 192), (p9, .inr (2, [.ref p0, .ref p1, .ref p2, .ref p3, .ref p4, .ref p5, .int 0])), (p0, zI cs 32), (p1, zI cs 32), (p2, zI cs 32), (p3, zZ cs 32), (p4, zI cs 32), (p5, zI cs 192)] := hD
  refine lv_aload_n C.1 C.2.1 dX4_init_26 rfl (lv_at hl 0 rfl) ?_
  refine kn_new 0 [.null, .null, .null, .null, .null, .int 0, .int 0] (by decide) C hP hD hS qX4_25 instX0 ini0 (by decide) (by first | exact Nat.le_of_ble_eq_true rfl | (show _ + 1 ≤ _; omega)) (by first | exact Nat.le_of_ble_eq_true rfl | (show _ + _ ≤ _; simp only [vq_cl]; omega)) dX4_init_27 (fun c9 H hP hD hS => ?_)
  refine lv_dup C.1 C.2.1 dX4_init_30 rfl ?_
  refine kn_callN (na := 0) (As := []) (rest := [.ref c9, .ref h0]) (k_init0 l d' (by omega)) rfl rfl rfl (by decide) cd_yX0_init ini0 (List.mem_of_getElem? (i := 4) rfl) im_yX0_init dX4_init_31 (Nat.le_of_ble_eq_true rfl) ⟨by show _ + 1 ≤ _ + 1; omega, by show 8 + (_ + 11) + 64 * _ ≤ 64 * (_ + 1); simp only; omega⟩ ⟨by first | exact Nat.le_of_ble_eq_true rfl | (show _ + _ ≤ _; omega), by first | exact Nat.le_of_ble_eq_true rfl | (show _ + _ ≤ _; omega)⟩ C hP hD hS hl.1 (fun fs tl H locs hp hP hD hS => ?_)
  obtain ⟨c0, c1, c2, c3, c4, rfl, rfl⟩ := hp
  have hP : va_P D vwCl [(h0, .inr (4, [.ref k, .ref p9, .null, .null, .null, .int 0, .int 0, .int 0])), (k, .inr (6, [.ref k0, .ref k1, .ref k2, .ref k3, .int 0])), (k0, zI cs 24), (k1, zI cs 192), (k2, zI cs 192), (k3, zI cs 192), (p9, .inr (2, [.ref p0, .ref p1, .ref p2, .ref p3, .ref p4, .ref p5, .int 0])), (p0, zI cs 32), (p1, zI cs 32), (p2, zI cs 32), (p3, zZ cs 32), (p4, zI cs 32), (p5, zI cs 192), (c9, .inr (0, [.ref c0, .ref c1, .ref c2, .ref c3, .ref c4, .int 0, .int 0])), (c0, zI cs 16), (c1, zI cs 16), (c2, zI cs 96), (c3, zI cs 96), (c4, zI cs 96)] H := hP
  have hD : va_D A [(h0, .inr (4, [.ref k, .ref p9, .null, .null, .null, .int 0, .int 0, .int 0])), (k, .inr (6, [.ref k0, .ref k1, .ref k2, .ref k3, .int 0])), (k0, zI cs 24), (k1, zI cs 192), (k2, zI cs 192), (k3, zI cs 192), (p9, .inr (2, [.ref p0, .ref p1, .ref p2, .ref p3, .ref p4, .ref p5, .int 0])), (p0, zI cs 32), (p1, zI cs 32), (p2, zI cs 32), (p3, zZ cs 32), (p4, zI cs 32), (p5, zI cs 192), (c9, .inr (0, [.ref c0, .ref c1, .ref c2, .ref c3, .ref c4, .int 0, .int 0])), (c0, zI cs 16), (c1, zI cs 16), (c2, zI cs 96), (c3, zI cs 96), (c4, zI cs 96)] := hD
  refine kn_putF (ty := vq_tyf 4 2) 0 4 2 (by decide) C hin hP hD hS rfl (by decide) rfl rfl rfl rfl rfl (Nat.le_of_ble_eq_true rfl) (inWS f_X4_28) dX4_init_34 (fun H locs hP hD hS => ?_)
  have hP : va_P D vwCl [(h0, .inr (4, [.ref k, .ref p9, .ref c9, .null, .null, .int 0, .int 0, .int 0])), (k, .inr (6, [.ref k0, .ref k1, .ref k2, .ref k3, .int 0])), (k0, zI cs 24), (k1, zI cs 192), (k2, zI cs 192), (k3, zI cs 192), (p9, .inr (2, [.ref p0, .ref p1, .ref p2, .ref p3, .ref p4, .ref p5, .int 0])), (p0, zI cs 32), (p1, zI cs 32), (p2, zI cs 32), (p3, zZ cs 32), (p4, zI cs 32), (p5, zI cs 192), (c9, .inr (0, [.ref c0, .ref c1, .ref c2, .ref c3, .ref c4, .int 0, .int 0])), (c0, zI cs 16), (c1, zI cs 16), (c2, zI cs 96), (c3, zI cs 96), (c4, zI cs 96)] H := hP
  have hD : va_D A [(h0, .inr (4, [.ref k, .ref p9, .ref c9, .null, .null, .int 0, .int 0, .int 0])), (k, .inr (6, [.ref k0, .ref k1, .ref k2, .ref k3, .int 0])), (k0, zI cs 24), (k1, zI cs 192), (k2, zI cs 192), (k3, zI cs 192), (p9, .inr (2, [.ref p0, .ref p1, .ref p2, .ref p3, .ref p4, .ref p5, .int 0])), (p0, zI cs 32), (p1, zI cs 32), (p2, zI cs 32), (p3, zZ cs 32), (p4, zI cs 32), (p5, zI cs 192), (c9, .inr (0, [.ref c0, .ref c1, .ref c2, .ref c3, .ref c4, .int 0, .int 0])), (c0, zI cs 16), (c1, zI cs 16), (c2, zI cs 96), (c3, zI cs 96), (c4, zI cs 96)] := hD
  refine lv_aload_n C.1 C.2.1 dX4_init_37 rfl (lv_at hl 0 rfl) ?_
  refine kn_new 5 [.null, .null, .long 0, .int 0, .int 0] (by decide) C hP hD hS qX4_32 instX5 ini5 (by decide) (by first | exact Nat.le_of_ble_eq_true rfl | (show _ + 1 ≤ _; omega)) (by first | exact Nat.le_of_ble_eq_true rfl | (show _ + _ ≤ _; simp only [vq_cl]; omega)) dX4_init_38 (fun s9 H hP hD hS => ?_)
  refine lv_dup C.1 C.2.1 dX4_init_41 rfl ?_
  refine lv_iload_n C.1 C.2.1 dX4_init_42 rfl (lv_at hl 1 rfl) ?_
  refine kn_call (na := 1) (As := [.int (nI n)]) (rest := [.ref s9, .ref h0]) (k_init5 l d' hn (by omega)) rfl rfl rfl (by decide) cd_yX5_init ini5 kX4_34 im_yX5_init dX4_init_43 (Nat.le_of_ble_eq_true rfl) ⟨by show _ + 1 ≤ _ + 1; omega, by show 8 + (_ + 11) + 64 * _ ≤ 64 * (_ + 1); simp only; omega⟩ ⟨by first | exact Nat.le_of_ble_eq_true rfl | (show _ + _ ≤ _; omega), by first | exact Nat.le_of_ble_eq_true rfl | (show _ + _ ≤ _; omega)⟩ C hP hD hS hl.1 (fun fs tl H locs hp hP hD hS => ?_)
  obtain ⟨t0, t1, la, f, bl, hb, hf, rfl, rfl⟩ := hp
  have hP : va_P D vwCl ((h0, .inr (4, [.ref k, .ref p9, .ref c9, .null, .null, .int 0, .int 0, .int 0])) :: (k, .inr (6, [.ref k0, .ref k1, .ref k2, .ref k3, .int 0])) :: (k0, zI cs 24) :: (k1, zI cs 192) :: (k2, zI cs 192) :: (k3, zI cs 192) :: (p9, .inr (2, [.ref p0, .ref p1, .ref p2, .ref p3, .ref p4, .ref p5, .int 0])) :: (p0, zI cs 32) :: (p1, zI cs 32) :: (p2, zI cs 32) :: (p3, zZ cs 32) :: (p4, zI cs 32) :: (p5, zI cs 192) :: (c9, .inr (0, [.ref c0, .ref c1, .ref c2, .ref c3, .ref c4, .int 0, .int 0])) :: (c0, zI cs 16) :: (c1, zI cs 16) :: (c2, zI cs 96) :: (c3, zI cs 96) :: (c4, zI cs 96) :: (s9, .inr (5, [.ref t0, .ref la, .long 0, .int 0, .int 0])) :: (t0, .inr (8, [.ref t1, .int 0])) :: (t1, zI cs 900) :: (la, zR cs n f) :: bl.flatMap (LW cs)) H := hP
  have hD : va_D A ((h0, .inr (4, [.ref k, .ref p9, .ref c9, .null, .null, .int 0, .int 0, .int 0])) :: (k, .inr (6, [.ref k0, .ref k1, .ref k2, .ref k3, .int 0])) :: (k0, zI cs 24) :: (k1, zI cs 192) :: (k2, zI cs 192) :: (k3, zI cs 192) :: (p9, .inr (2, [.ref p0, .ref p1, .ref p2, .ref p3, .ref p4, .ref p5, .int 0])) :: (p0, zI cs 32) :: (p1, zI cs 32) :: (p2, zI cs 32) :: (p3, zZ cs 32) :: (p4, zI cs 32) :: (p5, zI cs 192) :: (c9, .inr (0, [.ref c0, .ref c1, .ref c2, .ref c3, .ref c4, .int 0, .int 0])) :: (c0, zI cs 16) :: (c1, zI cs 16) :: (c2, zI cs 96) :: (c3, zI cs 96) :: (c4, zI cs 96) :: (s9, .inr (5, [.ref t0, .ref la, .long 0, .int 0, .int 0])) :: (t0, .inr (8, [.ref t1, .int 0])) :: (t1, zI cs 900) :: (la, zR cs n f) :: bl.flatMap (LW cs)) := hD
  refine kn_putF (ty := vq_tyf 4 3) 0 4 3 (by decide) C hin hP hD hS rfl (by decide) rfl rfl rfl rfl rfl (Nat.le_of_ble_eq_true rfl) (inWS f_X4_37) dX4_init_46 (fun H locs hP hD hS => ?_)
  have hP : va_P D vwCl ((h0, .inr (4, [.ref k, .ref p9, .ref c9, .ref s9, .null, .int 0, .int 0, .int 0])) :: (k, .inr (6, [.ref k0, .ref k1, .ref k2, .ref k3, .int 0])) :: (k0, zI cs 24) :: (k1, zI cs 192) :: (k2, zI cs 192) :: (k3, zI cs 192) :: (p9, .inr (2, [.ref p0, .ref p1, .ref p2, .ref p3, .ref p4, .ref p5, .int 0])) :: (p0, zI cs 32) :: (p1, zI cs 32) :: (p2, zI cs 32) :: (p3, zZ cs 32) :: (p4, zI cs 32) :: (p5, zI cs 192) :: (c9, .inr (0, [.ref c0, .ref c1, .ref c2, .ref c3, .ref c4, .int 0, .int 0])) :: (c0, zI cs 16) :: (c1, zI cs 16) :: (c2, zI cs 96) :: (c3, zI cs 96) :: (c4, zI cs 96) :: (s9, .inr (5, [.ref t0, .ref la, .long 0, .int 0, .int 0])) :: (t0, .inr (8, [.ref t1, .int 0])) :: (t1, zI cs 900) :: (la, zR cs n f) :: bl.flatMap (LW cs)) H := hP
  have hD : va_D A ((h0, .inr (4, [.ref k, .ref p9, .ref c9, .ref s9, .null, .int 0, .int 0, .int 0])) :: (k, .inr (6, [.ref k0, .ref k1, .ref k2, .ref k3, .int 0])) :: (k0, zI cs 24) :: (k1, zI cs 192) :: (k2, zI cs 192) :: (k3, zI cs 192) :: (p9, .inr (2, [.ref p0, .ref p1, .ref p2, .ref p3, .ref p4, .ref p5, .int 0])) :: (p0, zI cs 32) :: (p1, zI cs 32) :: (p2, zI cs 32) :: (p3, zZ cs 32) :: (p4, zI cs 32) :: (p5, zI cs 192) :: (c9, .inr (0, [.ref c0, .ref c1, .ref c2, .ref c3, .ref c4, .int 0, .int 0])) :: (c0, zI cs 16) :: (c1, zI cs 16) :: (c2, zI cs 96) :: (c3, zI cs 96) :: (c4, zI cs 96) :: (s9, .inr (5, [.ref t0, .ref la, .long 0, .int 0, .int 0])) :: (t0, .inr (8, [.ref t1, .int 0])) :: (t1, zI cs 900) :: (la, zR cs n f) :: bl.flatMap (LW cs)) := hD
  refine lv_aload_n C.1 C.2.1 dX4_init_49 rfl (lv_at hl 0 rfl) ?_
  refine lv_aload_n C.1 C.2.1 dX4_init_50 rfl (lv_at hl 0 rfl) ?_
  refine kn_get 0 4 3 (v := .ref s9) (by decide) C hP rfl (by decide) rfl (inWS f_X4_37) dX4_init_51 ?_
  refine kn_get 19 5 0 (v := .ref t0) (by decide) C hP rfl (by decide) rfl gX4_41 dX4_init_54 ?_
  refine kn_putF (ty := vq_tyf 4 4) 0 4 4 (by decide) C hin hP hD hS rfl (by decide) rfl rfl rfl rfl rfl (Nat.le_of_ble_eq_true rfl) (inWS f_X4_45) dX4_init_57 (fun H locs hP hD hS => ?_)
  have hP : va_P D vwCl ((h0, .inr (4, [.ref k, .ref p9, .ref c9, .ref s9, .ref t0, .int 0, .int 0, .int 0])) :: (k, .inr (6, [.ref k0, .ref k1, .ref k2, .ref k3, .int 0])) :: (k0, zI cs 24) :: (k1, zI cs 192) :: (k2, zI cs 192) :: (k3, zI cs 192) :: (p9, .inr (2, [.ref p0, .ref p1, .ref p2, .ref p3, .ref p4, .ref p5, .int 0])) :: (p0, zI cs 32) :: (p1, zI cs 32) :: (p2, zI cs 32) :: (p3, zZ cs 32) :: (p4, zI cs 32) :: (p5, zI cs 192) :: (c9, .inr (0, [.ref c0, .ref c1, .ref c2, .ref c3, .ref c4, .int 0, .int 0])) :: (c0, zI cs 16) :: (c1, zI cs 16) :: (c2, zI cs 96) :: (c3, zI cs 96) :: (c4, zI cs 96) :: (s9, .inr (5, [.ref t0, .ref la, .long 0, .int 0, .int 0])) :: (t0, .inr (8, [.ref t1, .int 0])) :: (t1, zI cs 900) :: (la, zR cs n f) :: bl.flatMap (LW cs)) H := hP
  have hD : va_D A ((h0, .inr (4, [.ref k, .ref p9, .ref c9, .ref s9, .ref t0, .int 0, .int 0, .int 0])) :: (k, .inr (6, [.ref k0, .ref k1, .ref k2, .ref k3, .int 0])) :: (k0, zI cs 24) :: (k1, zI cs 192) :: (k2, zI cs 192) :: (k3, zI cs 192) :: (p9, .inr (2, [.ref p0, .ref p1, .ref p2, .ref p3, .ref p4, .ref p5, .int 0])) :: (p0, zI cs 32) :: (p1, zI cs 32) :: (p2, zI cs 32) :: (p3, zZ cs 32) :: (p4, zI cs 32) :: (p5, zI cs 192) :: (c9, .inr (0, [.ref c0, .ref c1, .ref c2, .ref c3, .ref c4, .int 0, .int 0])) :: (c0, zI cs 16) :: (c1, zI cs 16) :: (c2, zI cs 96) :: (c3, zI cs 96) :: (c4, zI cs 96) :: (s9, .inr (5, [.ref t0, .ref la, .long 0, .int 0, .int 0])) :: (t0, .inr (8, [.ref t1, .int 0])) :: (t1, zI cs 900) :: (la, zR cs n f) :: bl.flatMap (LW cs)) := hD
  exact kn_ret C hr hlk dX4_init_60 (Nat.le_of_ble_eq_true rfl) (Nat.le_of_ble_eq_true rfl) hP hD hS ⟨k, k0, k1, k2, k3, p9, p0, p1, p2, p3, p4, p5, c9, c0, c1, c2, c3, c4, s9, t0, t1, la, f, bl, hb, hf, rfl, rfl⟩
def nOf (x : Int32) : Nat := if 1 ≤ x ∧ x ≤ 8 then N x else 1
def Ps9 (n : Nat) (cs : vq_S) (h0 : Nat) (fs : List Value) (tl : va_W) : Prop := ∃ (r9 k k0 k1 k2 k3 p9 p0 p1 p2 p3 p4 p5 c9 c0 c1 c2 c3 c4 s9 t0 t1 la : Nat) (f : Nat → Option Nat) (bl : List (Nat → Nat)), bl.length = n ∧ (∀ j, j < n → f j = some (bl.getD j (fun _ => 0) 0)) ∧ fs = [.ref r9, .ref s9, .ref t0, .ref k, .ref p9, .ref c9] ∧ tl = (r9, .inr (4, [.ref k, .ref p9, .ref c9, .ref s9, .ref t0, .int 0, .int 0, .int 0])) :: (k, .inr (6, [.ref k0, .ref k1, .ref k2, .ref k3, .int 0])) :: (k0, zI cs 24) :: (k1, zI cs 192) :: (k2, zI cs 192) :: (k3, zI cs 192) :: (p9, .inr (2, [.ref p0, .ref p1, .ref p2, .ref p3, .ref p4, .ref p5, .int 0])) :: (p0, zI cs 32) :: (p1, zI cs 32) :: (p2, zI cs 32) :: (p3, zZ cs 32) :: (p4, zI cs 32) :: (p5, zI cs 192) :: (c9, .inr (0, [.ref c0, .ref c1, .ref c2, .ref c3, .ref c4, .int 0, .int 0])) :: (c0, zI cs 16) :: (c1, zI cs 16) :: (c2, zI cs 96) :: (c3, zI cs 96) :: (c4, zI cs 96) :: (s9, .inr (5, [.ref t0, .ref la, .long 0, .int 0, .int 0])) :: (t0, .inr (8, [.ref t1, .int 0])) :: (t1, zI cs 900) :: (la, zR cs n f) :: bl.flatMap (LW cs)
theorem nOf_in {x : Int32} (h : 1 ≤ x ∧ x ≤ 8) : x = nI (nOf x) := by
  unfold nOf
  rw [if_pos h]
  have h0 : ¬ x < 0 := fun q => absurd (Int32.lt_of_lt_of_le q (Int32.le_trans (show (0 : Int32) ≤ 1 by decide) h.1)) (Int32.lt_irrefl)
  obtain ⟨j, hj, rfl⟩ := nI_of h0
  rw [N_nI hj]
theorem nOf_le (x : Int32) : 1 ≤ nOf x ∧ nOf x ≤ 8 := by
  unfold nOf
  split
  · rename_i h
    have h0 : ¬ x < 0 := fun q => absurd (Int32.lt_of_lt_of_le q (Int32.le_trans (show (0 : Int32) ≤ 1 by decide) h.1)) (Int32.lt_irrefl)
    obtain ⟨j, hj, rfl⟩ := nI_of h0
    rw [N_nI hj]
    exact ⟨(nI_leI (by decide) hj).mp h.1, (nI_leI hj (by decide)).mp h.2⟩
  · decide
set_option maxHeartbeats 4000000 in
theorem k_init9 (x : Int32) (hd : 5 ≤ d) : KC l m_X9_init d 95 3526 9 [.null, .null, .null, .null, .null, .null] [.int x] (Ps9 (nOf x)) := by
  obtain ⟨d', rfl⟩ : ∃ d', d = d' + 1 := ⟨d - 1, by omega⟩
  refine KC_of (fun h0 => [(0, .ref h0), (1, .int x)]) (by decide) rfl rfl (fun h0 => Nat.le_of_ble_eq_true rfl) (fun h0 => rfl) ?_
  intro p e s m args below meth c h0 cs D A ls C hr hlk hin hP hD hS hl
  refine lv_aload_n C.1 C.2.1 dX9_init_0 rfl (lv_at hl 0 rfl) ?_
  refine kn_obj C hl.1 kX9_1 im_objectInit cd_objectInit dX9_init_1 (by show 1 ≤ _ + 1; omega) (by show 0 + 12 ≤ 64 * (_ + 1); omega) ?_
  refine lv_aload_n C.1 C.2.1 dX9_init_4 rfl (lv_at hl 0 rfl) ?_
  refine kn_new 4 [.null, .null, .null, .null, .null, .int 0, .int 0, .int 0] (by decide) C hP hD hS qX9_7 instX4 ini4 (by decide) (by first | exact Nat.le_of_ble_eq_true rfl | (show _ + 1 ≤ _; omega)) (by first | exact Nat.le_of_ble_eq_true rfl | (show _ + _ ≤ _; simp only [vq_cl]; omega)) dX9_init_5 (fun r9 H hP hD hS => ?_)
  refine lv_dup C.1 C.2.1 dX9_init_8 rfl ?_
  suffices hk : W p l e (kc_rm (d' + 1) 95 3526) s m args below meth c H [] (0 + 1) (0 + 8) (MQ below (kc_Q cs D h0 9 A (Ps9 (nOf x) cs h0)) args s 95 3526 A) (F0 m 25 ls [.int (nI (nOf x)), .ref r9, .ref r9, .ref h0]) by
    refine lv_iload_n C.1 C.2.1 dX9_init_9 rfl (lv_at hl 1 rfl) ?_
    refine lv_iconst (v := 1) C.1 C.2.1 dX9_init_10 rfl ?_
    refine lv_icmp_lt (tgt := 24) C.1 C.2.1 dX9_init_11 rfl (fun z1 => ?_) (fun z1 => ?_)
    · have e1 : nOf x = 1 := if_neg (fun q => absurd (Int32.lt_of_lt_of_le z1 q.1) Int32.lt_irrefl)
      rw [show nI (nOf x) = 1 by rw [e1]; rfl] at hk
      exact lv_iconst (v := 1) C.1 C.2.1 dX9_init_24 rfl hk
    · refine lv_iload_n C.1 C.2.1 dX9_init_14 rfl (lv_at hl 1 rfl) ?_
      refine lv_bipush (v := 8) C.1 C.2.1 dX9_init_15 rfl ?_
      refine lv_icmp_gt (tgt := 24) C.1 C.2.1 dX9_init_17 rfl (fun z2 => ?_) (fun z2 => ?_)
      · have e1 : nOf x = 1 := if_neg (fun q => absurd (Int32.lt_of_lt_of_le z2 q.2) Int32.lt_irrefl)
        rw [show nI (nOf x) = 1 by rw [e1]; rfl] at hk
        exact lv_iconst (v := 1) C.1 C.2.1 dX9_init_24 rfl hk
      · have e1 : x = nI (nOf x) := nOf_in ⟨Int32.not_lt.mp z1, Int32.not_lt.mp z2⟩
        refine lv_iload_n C.1 C.2.1 dX9_init_20 rfl (lv_at hl 1 rfl) ?_
        refine lv_goto (tgt := 25) C.1 C.2.1 dX9_init_21 rfl ?_
        rw [← e1] at hk
        exact hk
  generalize hne : nOf x = n
  have hn : n ≤ 8 := hne ▸ (nOf_le x).2
  refine kn_call (na := 1) (As := [.int (nI n)]) (rest := [.ref r9, .ref h0]) (k_init4 l d' hn (by omega)) rfl rfl rfl (by decide) cd_yX4_init ini4 kX9_11 im_yX4_init dX9_init_25 (Nat.le_of_ble_eq_true rfl) ⟨by show _ + 1 ≤ _ + 1; omega, by show 8 + (_ + 11) + 64 * _ ≤ 64 * (_ + 1); simp only; omega⟩ ⟨by first | exact Nat.le_of_ble_eq_true rfl | (show _ + _ ≤ _; omega), by first | exact Nat.le_of_ble_eq_true rfl | (show _ + _ ≤ _; omega)⟩ C hP hD hS hl.1 (fun fs tl H locs hp hP hD hS => ?_)
  obtain ⟨k, k0, k1, k2, k3, p9, p0, p1, p2, p3, p4, p5, c9, c0, c1, c2, c3, c4, s9, t0, t1, la, f, bl, hb, hf, rfl, rfl⟩ := hp
  have hP : va_P D vwCl ((h0, .inr (9, [.null, .null, .null, .null, .null, .null])) :: (r9, .inr (4, [.ref k, .ref p9, .ref c9, .ref s9, .ref t0, .int 0, .int 0, .int 0])) :: (k, .inr (6, [.ref k0, .ref k1, .ref k2, .ref k3, .int 0])) :: (k0, zI cs 24) :: (k1, zI cs 192) :: (k2, zI cs 192) :: (k3, zI cs 192) :: (p9, .inr (2, [.ref p0, .ref p1, .ref p2, .ref p3, .ref p4, .ref p5, .int 0])) :: (p0, zI cs 32) :: (p1, zI cs 32) :: (p2, zI cs 32) :: (p3, zZ cs 32) :: (p4, zI cs 32) :: (p5, zI cs 192) :: (c9, .inr (0, [.ref c0, .ref c1, .ref c2, .ref c3, .ref c4, .int 0, .int 0])) :: (c0, zI cs 16) :: (c1, zI cs 16) :: (c2, zI cs 96) :: (c3, zI cs 96) :: (c4, zI cs 96) :: (s9, .inr (5, [.ref t0, .ref la, .long 0, .int 0, .int 0])) :: (t0, .inr (8, [.ref t1, .int 0])) :: (t1, zI cs 900) :: (la, zR cs n f) :: bl.flatMap (LW cs)) H := hP
  have hD : va_D A ((h0, .inr (9, [.null, .null, .null, .null, .null, .null])) :: (r9, .inr (4, [.ref k, .ref p9, .ref c9, .ref s9, .ref t0, .int 0, .int 0, .int 0])) :: (k, .inr (6, [.ref k0, .ref k1, .ref k2, .ref k3, .int 0])) :: (k0, zI cs 24) :: (k1, zI cs 192) :: (k2, zI cs 192) :: (k3, zI cs 192) :: (p9, .inr (2, [.ref p0, .ref p1, .ref p2, .ref p3, .ref p4, .ref p5, .int 0])) :: (p0, zI cs 32) :: (p1, zI cs 32) :: (p2, zI cs 32) :: (p3, zZ cs 32) :: (p4, zI cs 32) :: (p5, zI cs 192) :: (c9, .inr (0, [.ref c0, .ref c1, .ref c2, .ref c3, .ref c4, .int 0, .int 0])) :: (c0, zI cs 16) :: (c1, zI cs 16) :: (c2, zI cs 96) :: (c3, zI cs 96) :: (c4, zI cs 96) :: (s9, .inr (5, [.ref t0, .ref la, .long 0, .int 0, .int 0])) :: (t0, .inr (8, [.ref t1, .int 0])) :: (t1, zI cs 900) :: (la, zR cs n f) :: bl.flatMap (LW cs)) := hD
  refine kn_putF (ty := vq_tyf 9 0) 0 9 0 (by decide) C hin hP hD hS rfl (by decide) rfl rfl rfl rfl rfl (Nat.le_of_ble_eq_true rfl) (inWS f_X9_14) dX9_init_28 (fun H locs hP hD hS => ?_)
  have hP : va_P D vwCl ((h0, .inr (9, [.ref r9, .null, .null, .null, .null, .null])) :: (r9, .inr (4, [.ref k, .ref p9, .ref c9, .ref s9, .ref t0, .int 0, .int 0, .int 0])) :: (k, .inr (6, [.ref k0, .ref k1, .ref k2, .ref k3, .int 0])) :: (k0, zI cs 24) :: (k1, zI cs 192) :: (k2, zI cs 192) :: (k3, zI cs 192) :: (p9, .inr (2, [.ref p0, .ref p1, .ref p2, .ref p3, .ref p4, .ref p5, .int 0])) :: (p0, zI cs 32) :: (p1, zI cs 32) :: (p2, zI cs 32) :: (p3, zZ cs 32) :: (p4, zI cs 32) :: (p5, zI cs 192) :: (c9, .inr (0, [.ref c0, .ref c1, .ref c2, .ref c3, .ref c4, .int 0, .int 0])) :: (c0, zI cs 16) :: (c1, zI cs 16) :: (c2, zI cs 96) :: (c3, zI cs 96) :: (c4, zI cs 96) :: (s9, .inr (5, [.ref t0, .ref la, .long 0, .int 0, .int 0])) :: (t0, .inr (8, [.ref t1, .int 0])) :: (t1, zI cs 900) :: (la, zR cs n f) :: bl.flatMap (LW cs)) H := hP
  have hD : va_D A ((h0, .inr (9, [.ref r9, .null, .null, .null, .null, .null])) :: (r9, .inr (4, [.ref k, .ref p9, .ref c9, .ref s9, .ref t0, .int 0, .int 0, .int 0])) :: (k, .inr (6, [.ref k0, .ref k1, .ref k2, .ref k3, .int 0])) :: (k0, zI cs 24) :: (k1, zI cs 192) :: (k2, zI cs 192) :: (k3, zI cs 192) :: (p9, .inr (2, [.ref p0, .ref p1, .ref p2, .ref p3, .ref p4, .ref p5, .int 0])) :: (p0, zI cs 32) :: (p1, zI cs 32) :: (p2, zI cs 32) :: (p3, zZ cs 32) :: (p4, zI cs 32) :: (p5, zI cs 192) :: (c9, .inr (0, [.ref c0, .ref c1, .ref c2, .ref c3, .ref c4, .int 0, .int 0])) :: (c0, zI cs 16) :: (c1, zI cs 16) :: (c2, zI cs 96) :: (c3, zI cs 96) :: (c4, zI cs 96) :: (s9, .inr (5, [.ref t0, .ref la, .long 0, .int 0, .int 0])) :: (t0, .inr (8, [.ref t1, .int 0])) :: (t1, zI cs 900) :: (la, zR cs n f) :: bl.flatMap (LW cs)) := hD
  refine lv_aload_n C.1 C.2.1 dX9_init_31 rfl (lv_at hl 0 rfl) ?_
  refine lv_aload_n C.1 C.2.1 dX9_init_32 rfl (lv_at hl 0 rfl) ?_
  refine kn_get 0 9 0 (v := .ref r9) (by decide) C hP rfl (by decide) rfl (inWS f_X9_14) dX9_init_33 ?_
  refine kn_get 1 4 3 (v := .ref s9) (by decide) C hP rfl (by decide) rfl gX9_18 dX9_init_36 ?_
  refine kn_putF (ty := vq_tyf 9 1) 0 9 1 (by decide) C hin hP hD hS rfl (by decide) rfl rfl rfl rfl rfl (Nat.le_of_ble_eq_true rfl) (inWS f_X9_22) dX9_init_39 (fun H locs hP hD hS => ?_)
  have hP : va_P D vwCl ((h0, .inr (9, [.ref r9, .ref s9, .null, .null, .null, .null])) :: (r9, .inr (4, [.ref k, .ref p9, .ref c9, .ref s9, .ref t0, .int 0, .int 0, .int 0])) :: (k, .inr (6, [.ref k0, .ref k1, .ref k2, .ref k3, .int 0])) :: (k0, zI cs 24) :: (k1, zI cs 192) :: (k2, zI cs 192) :: (k3, zI cs 192) :: (p9, .inr (2, [.ref p0, .ref p1, .ref p2, .ref p3, .ref p4, .ref p5, .int 0])) :: (p0, zI cs 32) :: (p1, zI cs 32) :: (p2, zI cs 32) :: (p3, zZ cs 32) :: (p4, zI cs 32) :: (p5, zI cs 192) :: (c9, .inr (0, [.ref c0, .ref c1, .ref c2, .ref c3, .ref c4, .int 0, .int 0])) :: (c0, zI cs 16) :: (c1, zI cs 16) :: (c2, zI cs 96) :: (c3, zI cs 96) :: (c4, zI cs 96) :: (s9, .inr (5, [.ref t0, .ref la, .long 0, .int 0, .int 0])) :: (t0, .inr (8, [.ref t1, .int 0])) :: (t1, zI cs 900) :: (la, zR cs n f) :: bl.flatMap (LW cs)) H := hP
  have hD : va_D A ((h0, .inr (9, [.ref r9, .ref s9, .null, .null, .null, .null])) :: (r9, .inr (4, [.ref k, .ref p9, .ref c9, .ref s9, .ref t0, .int 0, .int 0, .int 0])) :: (k, .inr (6, [.ref k0, .ref k1, .ref k2, .ref k3, .int 0])) :: (k0, zI cs 24) :: (k1, zI cs 192) :: (k2, zI cs 192) :: (k3, zI cs 192) :: (p9, .inr (2, [.ref p0, .ref p1, .ref p2, .ref p3, .ref p4, .ref p5, .int 0])) :: (p0, zI cs 32) :: (p1, zI cs 32) :: (p2, zI cs 32) :: (p3, zZ cs 32) :: (p4, zI cs 32) :: (p5, zI cs 192) :: (c9, .inr (0, [.ref c0, .ref c1, .ref c2, .ref c3, .ref c4, .int 0, .int 0])) :: (c0, zI cs 16) :: (c1, zI cs 16) :: (c2, zI cs 96) :: (c3, zI cs 96) :: (c4, zI cs 96) :: (s9, .inr (5, [.ref t0, .ref la, .long 0, .int 0, .int 0])) :: (t0, .inr (8, [.ref t1, .int 0])) :: (t1, zI cs 900) :: (la, zR cs n f) :: bl.flatMap (LW cs)) := hD
  refine lv_aload_n C.1 C.2.1 dX9_init_42 rfl (lv_at hl 0 rfl) ?_
  refine lv_aload_n C.1 C.2.1 dX9_init_43 rfl (lv_at hl 0 rfl) ?_
  refine kn_get 0 9 1 (v := .ref s9) (by decide) C hP rfl (by decide) rfl (inWS f_X9_22) dX9_init_44 ?_
  refine kn_get 20 5 0 (v := .ref t0) (by decide) C hP rfl (by decide) rfl gX9_23 dX9_init_47 ?_
  refine kn_putF (ty := vq_tyf 9 2) 0 9 2 (by decide) C hin hP hD hS rfl (by decide) rfl rfl rfl rfl rfl (Nat.le_of_ble_eq_true rfl) (inWS f_X9_29) dX9_init_50 (fun H locs hP hD hS => ?_)
  have hP : va_P D vwCl ((h0, .inr (9, [.ref r9, .ref s9, .ref t0, .null, .null, .null])) :: (r9, .inr (4, [.ref k, .ref p9, .ref c9, .ref s9, .ref t0, .int 0, .int 0, .int 0])) :: (k, .inr (6, [.ref k0, .ref k1, .ref k2, .ref k3, .int 0])) :: (k0, zI cs 24) :: (k1, zI cs 192) :: (k2, zI cs 192) :: (k3, zI cs 192) :: (p9, .inr (2, [.ref p0, .ref p1, .ref p2, .ref p3, .ref p4, .ref p5, .int 0])) :: (p0, zI cs 32) :: (p1, zI cs 32) :: (p2, zI cs 32) :: (p3, zZ cs 32) :: (p4, zI cs 32) :: (p5, zI cs 192) :: (c9, .inr (0, [.ref c0, .ref c1, .ref c2, .ref c3, .ref c4, .int 0, .int 0])) :: (c0, zI cs 16) :: (c1, zI cs 16) :: (c2, zI cs 96) :: (c3, zI cs 96) :: (c4, zI cs 96) :: (s9, .inr (5, [.ref t0, .ref la, .long 0, .int 0, .int 0])) :: (t0, .inr (8, [.ref t1, .int 0])) :: (t1, zI cs 900) :: (la, zR cs n f) :: bl.flatMap (LW cs)) H := hP
  have hD : va_D A ((h0, .inr (9, [.ref r9, .ref s9, .ref t0, .null, .null, .null])) :: (r9, .inr (4, [.ref k, .ref p9, .ref c9, .ref s9, .ref t0, .int 0, .int 0, .int 0])) :: (k, .inr (6, [.ref k0, .ref k1, .ref k2, .ref k3, .int 0])) :: (k0, zI cs 24) :: (k1, zI cs 192) :: (k2, zI cs 192) :: (k3, zI cs 192) :: (p9, .inr (2, [.ref p0, .ref p1, .ref p2, .ref p3, .ref p4, .ref p5, .int 0])) :: (p0, zI cs 32) :: (p1, zI cs 32) :: (p2, zI cs 32) :: (p3, zZ cs 32) :: (p4, zI cs 32) :: (p5, zI cs 192) :: (c9, .inr (0, [.ref c0, .ref c1, .ref c2, .ref c3, .ref c4, .int 0, .int 0])) :: (c0, zI cs 16) :: (c1, zI cs 16) :: (c2, zI cs 96) :: (c3, zI cs 96) :: (c4, zI cs 96) :: (s9, .inr (5, [.ref t0, .ref la, .long 0, .int 0, .int 0])) :: (t0, .inr (8, [.ref t1, .int 0])) :: (t1, zI cs 900) :: (la, zR cs n f) :: bl.flatMap (LW cs)) := hD
  refine lv_aload_n C.1 C.2.1 dX9_init_53 rfl (lv_at hl 0 rfl) ?_
  refine lv_aload_n C.1 C.2.1 dX9_init_54 rfl (lv_at hl 0 rfl) ?_
  refine kn_get 0 9 0 (v := .ref r9) (by decide) C hP rfl (by decide) rfl (inWS f_X9_14) dX9_init_55 ?_
  refine kn_get 1 4 0 (v := .ref k) (by decide) C hP rfl (by decide) rfl gX9_30 dX9_init_58 ?_
  refine kn_putF (ty := vq_tyf 9 3) 0 9 3 (by decide) C hin hP hD hS rfl (by decide) rfl rfl rfl rfl rfl (Nat.le_of_ble_eq_true rfl) (inWS f_X9_34) dX9_init_61 (fun H locs hP hD hS => ?_)
  have hP : va_P D vwCl ((h0, .inr (9, [.ref r9, .ref s9, .ref t0, .ref k, .null, .null])) :: (r9, .inr (4, [.ref k, .ref p9, .ref c9, .ref s9, .ref t0, .int 0, .int 0, .int 0])) :: (k, .inr (6, [.ref k0, .ref k1, .ref k2, .ref k3, .int 0])) :: (k0, zI cs 24) :: (k1, zI cs 192) :: (k2, zI cs 192) :: (k3, zI cs 192) :: (p9, .inr (2, [.ref p0, .ref p1, .ref p2, .ref p3, .ref p4, .ref p5, .int 0])) :: (p0, zI cs 32) :: (p1, zI cs 32) :: (p2, zI cs 32) :: (p3, zZ cs 32) :: (p4, zI cs 32) :: (p5, zI cs 192) :: (c9, .inr (0, [.ref c0, .ref c1, .ref c2, .ref c3, .ref c4, .int 0, .int 0])) :: (c0, zI cs 16) :: (c1, zI cs 16) :: (c2, zI cs 96) :: (c3, zI cs 96) :: (c4, zI cs 96) :: (s9, .inr (5, [.ref t0, .ref la, .long 0, .int 0, .int 0])) :: (t0, .inr (8, [.ref t1, .int 0])) :: (t1, zI cs 900) :: (la, zR cs n f) :: bl.flatMap (LW cs)) H := hP
  have hD : va_D A ((h0, .inr (9, [.ref r9, .ref s9, .ref t0, .ref k, .null, .null])) :: (r9, .inr (4, [.ref k, .ref p9, .ref c9, .ref s9, .ref t0, .int 0, .int 0, .int 0])) :: (k, .inr (6, [.ref k0, .ref k1, .ref k2, .ref k3, .int 0])) :: (k0, zI cs 24) :: (k1, zI cs 192) :: (k2, zI cs 192) :: (k3, zI cs 192) :: (p9, .inr (2, [.ref p0, .ref p1, .ref p2, .ref p3, .ref p4, .ref p5, .int 0])) :: (p0, zI cs 32) :: (p1, zI cs 32) :: (p2, zI cs 32) :: (p3, zZ cs 32) :: (p4, zI cs 32) :: (p5, zI cs 192) :: (c9, .inr (0, [.ref c0, .ref c1, .ref c2, .ref c3, .ref c4, .int 0, .int 0])) :: (c0, zI cs 16) :: (c1, zI cs 16) :: (c2, zI cs 96) :: (c3, zI cs 96) :: (c4, zI cs 96) :: (s9, .inr (5, [.ref t0, .ref la, .long 0, .int 0, .int 0])) :: (t0, .inr (8, [.ref t1, .int 0])) :: (t1, zI cs 900) :: (la, zR cs n f) :: bl.flatMap (LW cs)) := hD
  refine lv_aload_n C.1 C.2.1 dX9_init_64 rfl (lv_at hl 0 rfl) ?_
  refine lv_aload_n C.1 C.2.1 dX9_init_65 rfl (lv_at hl 0 rfl) ?_
  refine kn_get 0 9 0 (v := .ref r9) (by decide) C hP rfl (by decide) rfl (inWS f_X9_14) dX9_init_66 ?_
  refine kn_get 1 4 1 (v := .ref p9) (by decide) C hP rfl (by decide) rfl gX9_35 dX9_init_69 ?_
  refine kn_putF (ty := vq_tyf 9 4) 0 9 4 (by decide) C hin hP hD hS rfl (by decide) rfl rfl rfl rfl rfl (Nat.le_of_ble_eq_true rfl) (inWS f_X9_39) dX9_init_72 (fun H locs hP hD hS => ?_)
  have hP : va_P D vwCl ((h0, .inr (9, [.ref r9, .ref s9, .ref t0, .ref k, .ref p9, .null])) :: (r9, .inr (4, [.ref k, .ref p9, .ref c9, .ref s9, .ref t0, .int 0, .int 0, .int 0])) :: (k, .inr (6, [.ref k0, .ref k1, .ref k2, .ref k3, .int 0])) :: (k0, zI cs 24) :: (k1, zI cs 192) :: (k2, zI cs 192) :: (k3, zI cs 192) :: (p9, .inr (2, [.ref p0, .ref p1, .ref p2, .ref p3, .ref p4, .ref p5, .int 0])) :: (p0, zI cs 32) :: (p1, zI cs 32) :: (p2, zI cs 32) :: (p3, zZ cs 32) :: (p4, zI cs 32) :: (p5, zI cs 192) :: (c9, .inr (0, [.ref c0, .ref c1, .ref c2, .ref c3, .ref c4, .int 0, .int 0])) :: (c0, zI cs 16) :: (c1, zI cs 16) :: (c2, zI cs 96) :: (c3, zI cs 96) :: (c4, zI cs 96) :: (s9, .inr (5, [.ref t0, .ref la, .long 0, .int 0, .int 0])) :: (t0, .inr (8, [.ref t1, .int 0])) :: (t1, zI cs 900) :: (la, zR cs n f) :: bl.flatMap (LW cs)) H := hP
  have hD : va_D A ((h0, .inr (9, [.ref r9, .ref s9, .ref t0, .ref k, .ref p9, .null])) :: (r9, .inr (4, [.ref k, .ref p9, .ref c9, .ref s9, .ref t0, .int 0, .int 0, .int 0])) :: (k, .inr (6, [.ref k0, .ref k1, .ref k2, .ref k3, .int 0])) :: (k0, zI cs 24) :: (k1, zI cs 192) :: (k2, zI cs 192) :: (k3, zI cs 192) :: (p9, .inr (2, [.ref p0, .ref p1, .ref p2, .ref p3, .ref p4, .ref p5, .int 0])) :: (p0, zI cs 32) :: (p1, zI cs 32) :: (p2, zI cs 32) :: (p3, zZ cs 32) :: (p4, zI cs 32) :: (p5, zI cs 192) :: (c9, .inr (0, [.ref c0, .ref c1, .ref c2, .ref c3, .ref c4, .int 0, .int 0])) :: (c0, zI cs 16) :: (c1, zI cs 16) :: (c2, zI cs 96) :: (c3, zI cs 96) :: (c4, zI cs 96) :: (s9, .inr (5, [.ref t0, .ref la, .long 0, .int 0, .int 0])) :: (t0, .inr (8, [.ref t1, .int 0])) :: (t1, zI cs 900) :: (la, zR cs n f) :: bl.flatMap (LW cs)) := hD
  refine lv_aload_n C.1 C.2.1 dX9_init_75 rfl (lv_at hl 0 rfl) ?_
  refine lv_aload_n C.1 C.2.1 dX9_init_76 rfl (lv_at hl 0 rfl) ?_
  refine kn_get 0 9 0 (v := .ref r9) (by decide) C hP rfl (by decide) rfl (inWS f_X9_14) dX9_init_77 ?_
  refine kn_get 1 4 2 (v := .ref c9) (by decide) C hP rfl (by decide) rfl gX9_40 dX9_init_80 ?_
  refine kn_putF (ty := vq_tyf 9 5) 0 9 5 (by decide) C hin hP hD hS rfl (by decide) rfl rfl rfl rfl rfl (Nat.le_of_ble_eq_true rfl) (inWS f_X9_44) dX9_init_83 (fun H locs hP hD hS => ?_)
  have hP : va_P D vwCl ((h0, .inr (9, [.ref r9, .ref s9, .ref t0, .ref k, .ref p9, .ref c9])) :: (r9, .inr (4, [.ref k, .ref p9, .ref c9, .ref s9, .ref t0, .int 0, .int 0, .int 0])) :: (k, .inr (6, [.ref k0, .ref k1, .ref k2, .ref k3, .int 0])) :: (k0, zI cs 24) :: (k1, zI cs 192) :: (k2, zI cs 192) :: (k3, zI cs 192) :: (p9, .inr (2, [.ref p0, .ref p1, .ref p2, .ref p3, .ref p4, .ref p5, .int 0])) :: (p0, zI cs 32) :: (p1, zI cs 32) :: (p2, zI cs 32) :: (p3, zZ cs 32) :: (p4, zI cs 32) :: (p5, zI cs 192) :: (c9, .inr (0, [.ref c0, .ref c1, .ref c2, .ref c3, .ref c4, .int 0, .int 0])) :: (c0, zI cs 16) :: (c1, zI cs 16) :: (c2, zI cs 96) :: (c3, zI cs 96) :: (c4, zI cs 96) :: (s9, .inr (5, [.ref t0, .ref la, .long 0, .int 0, .int 0])) :: (t0, .inr (8, [.ref t1, .int 0])) :: (t1, zI cs 900) :: (la, zR cs n f) :: bl.flatMap (LW cs)) H := hP
  have hD : va_D A ((h0, .inr (9, [.ref r9, .ref s9, .ref t0, .ref k, .ref p9, .ref c9])) :: (r9, .inr (4, [.ref k, .ref p9, .ref c9, .ref s9, .ref t0, .int 0, .int 0, .int 0])) :: (k, .inr (6, [.ref k0, .ref k1, .ref k2, .ref k3, .int 0])) :: (k0, zI cs 24) :: (k1, zI cs 192) :: (k2, zI cs 192) :: (k3, zI cs 192) :: (p9, .inr (2, [.ref p0, .ref p1, .ref p2, .ref p3, .ref p4, .ref p5, .int 0])) :: (p0, zI cs 32) :: (p1, zI cs 32) :: (p2, zI cs 32) :: (p3, zZ cs 32) :: (p4, zI cs 32) :: (p5, zI cs 192) :: (c9, .inr (0, [.ref c0, .ref c1, .ref c2, .ref c3, .ref c4, .int 0, .int 0])) :: (c0, zI cs 16) :: (c1, zI cs 16) :: (c2, zI cs 96) :: (c3, zI cs 96) :: (c4, zI cs 96) :: (s9, .inr (5, [.ref t0, .ref la, .long 0, .int 0, .int 0])) :: (t0, .inr (8, [.ref t1, .int 0])) :: (t1, zI cs 900) :: (la, zR cs n f) :: bl.flatMap (LW cs)) := hD
  exact kn_ret C hr hlk dX9_init_86 (Nat.le_of_ble_eq_true rfl) (Nat.le_of_ble_eq_true rfl) hP hD hS ⟨r9, k, k0, k1, k2, k3, p9, p0, p1, p2, p3, p4, p5, c9, c0, c1, c2, c3, c4, s9, t0, t1, la, f, bl, hb, hf, rfl, rfl⟩
end KCB
