/-! ===== fields, arrays, ends, calls ===== -/
def vq_cl (ci : Nat) : vw_C := vwCl.getD ci (RX0, TX0, 7)
def vq_tyf : Nat → Nat → FieldType
  | 0 => tyX0
  | 1 => tyX1
  | 2 => tyX2
  | 3 => tyX3
  | 4 => tyX4
  | 5 => tyX5
  | 6 => tyX6
  | 7 => tyX7
  | 8 => tyX8
  | 9 => tyX9
  | _ => tyX10
theorem vq_lay (ci : Nat) (h : ci < 11) : ∀ w ∈ u_ws (vq_cl ci).1 (vq_cl ci).2.1 (vq_cl ci).2.2, w ∈ WS := by
  match ci, h with
  | 0, _ => exact in_L0
  | 1, _ => exact in_L1
  | 2, _ => exact in_L2
  | 3, _ => exact in_L3
  | 4, _ => exact in_L4
  | 5, _ => exact in_L5
  | 6, _ => exact in_L6
  | 7, _ => exact in_L7
  | 8, _ => exact in_L8
  | 9, _ => exact in_L9
  | 10, _ => exact in_L10
theorem vq_clg (ci : Nat) (h : ci < 11) : vwCl[ci]? = some ((vq_cl ci).1, (vq_cl ci).2.1, (vq_cl ci).2.2) := by
  match ci, h with
  | 0, _ => rfl
  | 1, _ => rfl
  | 2, _ => rfl
  | 3, _ => rfl
  | 4, _ => rfl
  | 5, _ => rfl
  | 6, _ => rfl
  | 7, _ => rfl
  | 8, _ => rfl
  | 9, _ => rfl
  | 10, _ => rfl
theorem vq_tyok (ci : Nat) (h : ci < 11) : ∀ k, k < (vq_cl ci).2.2 → parseFieldDescriptor ((vq_cl ci).2.1 k).2.2.1 = some (vq_tyf ci k) := by
  match ci, h with
  | 0, _ => exact tyX0_ok
  | 1, _ => exact tyX1_ok
  | 2, _ => exact tyX2_ok
  | 3, _ => exact tyX3_ok
  | 4, _ => exact tyX4_ok
  | 5, _ => exact tyX5_ok
  | 6, _ => exact tyX6_ok
  | 7, _ => exact tyX7_ok
  | 8, _ => exact tyX8_ok
  | 9, _ => exact tyX9_ok
  | 10, _ => exact tyX10_ok
theorem vq_nm (ci : Nat) (h : ci < 11) : ∀ a, a < (vq_cl ci).2.2 → ∀ b, b < (vq_cl ci).2.2 → a ≠ b → ((vq_cl ci).2.1 a).2.1 ≠ ((vq_cl ci).2.1 b).2.1 := by
  match ci, h with
  | 0, _ => exact nmX0
  | 1, _ => exact nmX1
  | 2, _ => exact nmX2
  | 3, _ => exact nmX3
  | 4, _ => exact nmX4
  | 5, _ => exact nmX5
  | 6, _ => exact nmX6
  | 7, _ => exact nmX7
  | 8, _ => exact nmX8
  | 9, _ => exact nmX9
  | 10, _ => exact nmX10
theorem vq_pos {n i : Nat} {a : Nat → Nat} {cs : vq_S} {I : MI} {L : ML} {c : Nat} (hi : vq_is n i c) : ∃ q0 : Nat, (vq_ids n)[q0]? = some i ∧ (vq_W n a cs I L)[q0]? = some (a i, vq_ct n a cs I L i) := by
  obtain ⟨q0, h⟩ := List.getElem?_of_mem hi.1
  exact ⟨q0, h, by rw [vq_W, List.getElem?_map, h]; rfl⟩
theorem vq_ctO {n i ci : Nat} {a : Nat → Nat} {cs : vq_S} {I : MI} {L : ML} (h : gk i = ci) (hc : ci < 11) : vq_ct n a cs I L i = .inr (ci, vq_fl a I L i (vq_fk ci) 0) := by
  simp only [vq_ct, h]
  rw [if_neg (by omega), if_neg (by omega), if_neg (by omega), if_neg (by omega)]
theorem upI_ne {I : MI} {i j x : Nat} {v : Int32} (h : x ≠ i) : upI I i j v x = I x := by
  funext z
  simp [upI, h]
theorem upL_ne {L : ML} {i j x : Nat} {v : Int64} (h : x ≠ i) : upL L i j v x = L x := by
  funext z
  simp [upL, h]
theorem upI_self {I : MI} {i j : Nat} {v : Int32} : upI I i j v i = upd (I i) j v := by
  funext z
  simp [upI, upd]
theorem upL_self {L : ML} {i j : Nat} {v : Int64} : upL L i j v i = vp_updL (L i) j v := by
  funext z
  simp [upL, vp_updL]
section VPH
variable {l : Launch} {n : Nat} {y : vq_M} {d K : Nat} {Q : vq_R} {QX : vq_RX} {k pc : Nat} {lv lv' : List (Nat × Value)} {st : List Value} {I : MI} {L : ML}
theorem q_get (i ci j : Nat) {kd ix : Nat} {v : Value} {own : String} (hi : vq_is n i ci) (hci : ci < 11) (hkd : (vq_fk ci)[j]? = some kd) (hj : j < (vq_cl ci).2.2) (hw : Cond.fieldLink own ix ((vq_cl ci).2.1 j).1 ((vq_cl ci).2.1 j).2.1 ((vq_cl ci).2.1 j).2.2.1 ∈ WS) (ho : y.1.cls = own) (hv : ∀ a : Nat → Nat, vq_val a I L i kd j = vq_tr a v) (hd : decode y.2.1 pc = .ok (.getfield ix, 3)) (kk : VP l n y d K Q QX k (pc + 3) lv (v :: st) I L) : VP l n y d K Q QX k pc lv (.ref i :: st) I L := by
  intro p e s m args below meth c a cs D A H locs ls C hP hD hS hl
  obtain ⟨q0, hq, hw0⟩ := vq_pos (a := a) (cs := cs) (I := I) (L := L) hi
  rw [vq_ctO hi.2 hci] at hw0
  have hv' : (vq_fl a I L i (vq_fk ci) 0)[j]? = some (vq_tr a v) := by rw [vq_fl_get _ 0 j hkd, Nat.zero_add, hv a]
  exact va_get (D := D) (ci := ci) (v := vq_tr a v) (own := own) C.1 C.2.1 C.2.2.2.2.2.1 (vq_lay ci hci) (ho ▸ C.2.2.2.2.1) C.2.2.2.2.2.2.2.2.1 hP q0 hw0 (vq_clg ci hci) j hj (C.2.2.2.2.2.1 _ hw) (fun _ h => h) hv' hd (kk p e s m args below meth c a cs D A H locs ls C hP hD hS hl)
theorem q_getI (i ci j : Nat) {ix : Nat} {own : String} (hi : vq_is n i ci) (hci : ci < 11) (hkd : (vq_fk ci)[j]? = some 0) (hj : j < (vq_cl ci).2.2) (hw : Cond.fieldLink own ix ((vq_cl ci).2.1 j).1 ((vq_cl ci).2.1 j).2.1 ((vq_cl ci).2.1 j).2.2.1 ∈ WS) (ho : y.1.cls = own) (hd : decode y.2.1 pc = .ok (.getfield ix, 3)) (kk : VP l n y d K Q QX k (pc + 3) lv (.int (I i j) :: st) I L) : VP l n y d K Q QX k pc lv (.ref i :: st) I L :=
  q_get i ci j hi hci hkd hj hw ho (fun _ => rfl) hd kk
theorem q_getL (i ci j : Nat) {ix : Nat} {own : String} (hi : vq_is n i ci) (hci : ci < 11) (hkd : (vq_fk ci)[j]? = some 1) (hj : j < (vq_cl ci).2.2) (hw : Cond.fieldLink own ix ((vq_cl ci).2.1 j).1 ((vq_cl ci).2.1 j).2.1 ((vq_cl ci).2.1 j).2.2.1 ∈ WS) (ho : y.1.cls = own) (hd : decode y.2.1 pc = .ok (.getfield ix, 3)) (kk : VP l n y d K Q QX k (pc + 3) lv (.long (L i j) :: st) I L) : VP l n y d K Q QX k pc lv (.ref i :: st) I L :=
  q_get i ci j hi hci hkd hj hw ho (fun _ => rfl) hd kk
theorem q_getR (i ci j x : Nat) {ix : Nat} {own : String} (hi : vq_is n i ci) (hci : ci < 11) (hkd : (vq_fk ci)[j]? = some 2) (hx : gr i j = some x) (hj : j < (vq_cl ci).2.2) (hw : Cond.fieldLink own ix ((vq_cl ci).2.1 j).1 ((vq_cl ci).2.1 j).2.1 ((vq_cl ci).2.1 j).2.2.1 ∈ WS) (ho : y.1.cls = own) (hd : decode y.2.1 pc = .ok (.getfield ix, 3)) (kk : VP l n y d K Q QX k (pc + 3) lv (.ref x :: st) I L) : VP l n y d K Q QX k pc lv (.ref i :: st) I L :=
  q_get i ci j hi hci hkd hj hw ho (fun a => by simp [vq_val, hx, vq_tr, va_rf]) hd kk
theorem q_putI (i ci j : Nat) {v : Int32} {ix : Nat} {own : String} (hi : vq_is n i ci) (hci : ci < 11) (hkd : (vq_fk ci)[j]? = some 0) (hj : j < (vq_cl ci).2.2) (hf : ((vq_cl ci).2.1 j).2.2.2 = false) (hp : vq_tyf ci j = .int) (hw : Cond.fieldLink own ix ((vq_cl ci).2.1 j).1 ((vq_cl ci).2.1 j).2.1 ((vq_cl ci).2.1 j).2.2.1 ∈ WS) (ho : y.1.cls = own) (hd : decode y.2.1 pc = .ok (.putfield ix, 3)) (kk : VP l n y d K Q QX k (pc + 3) lv st (upI I i j v) L) : VP l n y d K Q QX k pc lv (.int v :: .ref i :: st) I L := by
  intro p e s m args below meth c a cs D A H locs ls C hP hD hS hl
  obtain ⟨q0, hq, hw0⟩ := vq_pos (a := a) (cs := cs) (I := I) (L := L) hi
  rw [vq_ctO hi.2 hci] at hw0
  refine va_put (D := D) (ci := ci) (v := .int v) (ty := .int) (own := own) C.1 C.2.1 C.2.2.2.2.2.1 (vq_lay ci hci) (vq_tyf ci) (vq_tyok ci hci) (vq_nm ci hci) (ho ▸ C.2.2.2.2.1) C.2.2.2.2.2.2.2.2.1 hP hD hS q0 hw0 (vq_clg ci hci) j hj (C.2.2.2.2.2.1 _ hw) (fun _ h => h) hf (hp ▸ vq_tyok ci hci j hj) rfl rfl (by rw [vq_fl_len]; exact (List.getElem?_eq_some_iff.mp hkd).1) hd (fun H1 locs1 hP1 hD1 hS1 => ?_)
  have e9 : (vq_W n a cs I L).set q0 (a i, .inr (ci, (vq_fl a I L i (vq_fk ci) 0).set j (.int v))) = vq_W n a cs (upI I i j v) L := by
    have h := vq_set (f := fun i => vq_ct n a cs I L i) (g := fun i => vq_ct n a cs (upI I i j v) L i) (k := q0) (i := i) hD hq
    rw [vq_fl_setI _ 0 j hkd, Nat.zero_add, ← vq_ctO (n := n) (cs := cs) hi.2 hci]
    exact vq_set (f := fun x => vq_ct n a cs I L x) (g := fun x => vq_ct n a cs (upI I i j v) L x) hD hq (fun x hx => vq_ct_other (upI_ne hx) rfl)
  rw [e9] at hP1 hD1
  exact kk p e s m args below meth c a cs D A H1 locs1 ls C hP1 hD1 hS1 hl
theorem q_putL (i ci j : Nat) {v : Int64} {ix : Nat} {own : String} (hi : vq_is n i ci) (hci : ci < 11) (hkd : (vq_fk ci)[j]? = some 1) (hj : j < (vq_cl ci).2.2) (hf : ((vq_cl ci).2.1 j).2.2.2 = false) (hp : vq_tyf ci j = .long) (hw : Cond.fieldLink own ix ((vq_cl ci).2.1 j).1 ((vq_cl ci).2.1 j).2.1 ((vq_cl ci).2.1 j).2.2.1 ∈ WS) (ho : y.1.cls = own) (hd : decode y.2.1 pc = .ok (.putfield ix, 3)) (kk : VP l n y d K Q QX k (pc + 3) lv st I (upL L i j v)) : VP l n y d K Q QX k pc lv (.long v :: .ref i :: st) I L := by
  intro p e s m args below meth c a cs D A H locs ls C hP hD hS hl
  obtain ⟨q0, hq, hw0⟩ := vq_pos (a := a) (cs := cs) (I := I) (L := L) hi
  rw [vq_ctO hi.2 hci] at hw0
  refine va_put (D := D) (ci := ci) (v := .long v) (ty := .long) (own := own) C.1 C.2.1 C.2.2.2.2.2.1 (vq_lay ci hci) (vq_tyf ci) (vq_tyok ci hci) (vq_nm ci hci) (ho ▸ C.2.2.2.2.1) C.2.2.2.2.2.2.2.2.1 hP hD hS q0 hw0 (vq_clg ci hci) j hj (C.2.2.2.2.2.1 _ hw) (fun _ h => h) hf (hp ▸ vq_tyok ci hci j hj) rfl rfl (by rw [vq_fl_len]; exact (List.getElem?_eq_some_iff.mp hkd).1) hd (fun H1 locs1 hP1 hD1 hS1 => ?_)
  have e9 : (vq_W n a cs I L).set q0 (a i, .inr (ci, (vq_fl a I L i (vq_fk ci) 0).set j (.long v))) = vq_W n a cs I (upL L i j v) := by
    rw [vq_fl_setL _ 0 j hkd, Nat.zero_add, ← vq_ctO (n := n) (cs := cs) hi.2 hci]
    exact vq_set (f := fun x => vq_ct n a cs I L x) (g := fun x => vq_ct n a cs I (upL L i j v) x) hD hq (fun x hx => vq_ct_other rfl (upL_ne hx))
  rw [e9] at hP1 hD1
  exact kk p e s m args below meth c a cs D A H1 locs1 ls C hP1 hD1 hS1 hl
theorem vq_ct20 {n i : Nat} {a : Nat → Nat} {cs : vq_S} {I : MI} {L : ML} (h : gk i = 20) : vq_ct n a cs I L i = .inl (cs.1, gl n i, .inl (I i)) := by
  simp only [vq_ct, h]; rfl
theorem vq_ct21 {n i : Nat} {a : Nat → Nat} {cs : vq_S} {I : MI} {L : ML} (h : gk i = 21) : vq_ct n a cs I L i = .inl (cs.2.1, gl n i, .inr (.inl (L i))) := by
  simp only [vq_ct, h]; rfl
theorem vq_ct22 {n i : Nat} {a : Nat → Nat} {cs : vq_S} {I : MI} {L : ML} (h : gk i = 22) : vq_ct n a cs I L i = .inl (cs.2.2.1, gl n i, .inl (I i)) := by
  simp only [vq_ct, h]; rfl
theorem vq_ct23 {n i : Nat} {a : Nat → Nat} {cs : vq_S} {I : MI} {L : ML} (h : gk i = 23) : vq_ct n a cs I L i = .inl (cs.2.2.2, gl n i, .inr (.inr (.inr (.inr (fun j => (gr i j).map a))))) := by
  simp only [vq_ct, h]; rfl
theorem gl_lt {n : Nat} (hn : n < 2 ^ 31) (i : Nat) : gl n i < 2 ^ 31 := by
  unfold gl
  split
  · exact hn
  · unfold gl0
    split <;> decide
/-- an index that is a number below the length -/
theorem vq_in {x : Int32} {j N : Nat} (hx : x = nI j) (hj : j < N) (hN : N < 2 ^ 31) : vp_in x N ∧ x.toNatClampNeg = j := by
  subst hx
  exact ⟨vp_in_nI hj hN, nI_clamp (by omega)⟩
theorem q_iald (i j : Nat) {x : Int32} (hn : n < 2 ^ 31) (hi : vq_is n i 20) (hx : x = nI j) (hj : j < gl n i) (hd : decode y.2.1 pc = .ok (.iaload, 1)) (kk : VP l n y d K Q QX k (pc + 1) lv (.int (I i j) :: st) I L) : VP l n y d K Q QX k pc lv (.int x :: .ref i :: st) I L := by
  intro p e s m args below meth c a cs D A H locs ls C hP hD hS hl
  obtain ⟨q0, hq, hw0⟩ := vq_pos (a := a) (cs := cs) (I := I) (L := L) hi
  rw [vq_ct20 hi.2] at hw0
  obtain ⟨h1, h2⟩ := vq_in hx hj (gl_lt hn i)
  refine va_iald (D := D) C.1 C.2.1 C.2.2.2.2.2.2.2.2.1 hP q0 0 hw0 rfl h1 hd ?_
  rw [h2]
  exact kk p e s m args below meth c a cs D A H locs ls C hP hD hS hl
theorem q_lald (i j : Nat) {x : Int32} (hn : n < 2 ^ 31) (hi : vq_is n i 21) (hx : x = nI j) (hj : j < gl n i) (hd : decode y.2.1 pc = .ok (.laload, 1)) (kk : VP l n y d K Q QX k (pc + 1) lv (.long (L i j) :: st) I L) : VP l n y d K Q QX k pc lv (.int x :: .ref i :: st) I L := by
  intro p e s m args below meth c a cs D A H locs ls C hP hD hS hl
  obtain ⟨q0, hq, hw0⟩ := vq_pos (a := a) (cs := cs) (I := I) (L := L) hi
  rw [vq_ct21 hi.2] at hw0
  obtain ⟨h1, h2⟩ := vq_in hx hj (gl_lt hn i)
  refine va_lald (D := D) C.1 C.2.1 C.2.2.2.2.2.2.2.2.1 hP q0 1 hw0 rfl h1 hd ?_
  rw [h2]
  exact kk p e s m args below meth c a cs D A H locs ls C hP hD hS hl
theorem q_zald (i j : Nat) {x : Int32} (hn : n < 2 ^ 31) (hi : vq_is n i 22) (hx : x = nI j) (hj : j < gl n i) (hd : decode y.2.1 pc = .ok (.baload, 1)) (kk : VP l n y d K Q QX k (pc + 1) lv (.int (I i j) :: st) I L) : VP l n y d K Q QX k pc lv (.int x :: .ref i :: st) I L := by
  intro p e s m args below meth c a cs D A H locs ls C hP hD hS hl
  obtain ⟨q0, hq, hw0⟩ := vq_pos (a := a) (cs := cs) (I := I) (L := L) hi
  rw [vq_ct22 hi.2] at hw0
  obtain ⟨h1, h2⟩ := vq_in hx hj (gl_lt hn i)
  refine va_zald (D := D) C.1 C.2.1 C.2.2.2.2.2.2.2.2.1 hP q0 2 hw0 rfl h1 hd ?_
  rw [h2]
  exact kk p e s m args below meth c a cs D A H locs ls C hP hD hS hl
theorem q_aald (i j z : Nat) {x : Int32} (hn : n < 2 ^ 31) (hi : vq_is n i 23) (hx : x = nI j) (hj : j < gl n i) (hz : gr i j = some z) (hd : decode y.2.1 pc = .ok (.aaload, 1)) (kk : VP l n y d K Q QX k (pc + 1) lv (.ref z :: st) I L) : VP l n y d K Q QX k pc lv (.int x :: .ref i :: st) I L := by
  intro p e s m args below meth c a cs D A H locs ls C hP hD hS hl
  obtain ⟨q0, hq, hw0⟩ := vq_pos (a := a) (cs := cs) (I := I) (L := L) hi
  rw [vq_ct23 hi.2] at hw0
  obtain ⟨h1, h2⟩ := vq_in hx hj (gl_lt hn i)
  refine va_aldq (D := D) C.1 C.2.1 C.2.2.2.2.2.2.2.2.1 hP q0 3 hw0 rfl h1 hd ?_
  rw [h2]
  simp only [hz, Option.map_some]
  exact kk p e s m args below meth c a cs D A H locs ls C hP hD hS hl
theorem q_alenI (i : Nat) (hi : vq_is n i 23) (hd : decode y.2.1 pc = .ok (.arraylength, 1)) (kk : VP l n y d K Q QX k (pc + 1) lv (.int (nI (gl n i)) :: st) I L) : VP l n y d K Q QX k pc lv (.ref i :: st) I L := by
  intro p e s m args below meth c a cs D A H locs ls C hP hD hS hl
  obtain ⟨q0, hq, hw0⟩ := vq_pos (a := a) (cs := cs) (I := I) (L := L) hi
  rw [vq_ct23 hi.2] at hw0
  exact va_alen (D := D) C.1 C.2.1 C.2.2.2.2.2.2.2.2.1 hP q0 3 hw0 rfl rfl hd (kk p e s m args below meth c a cs D A H locs ls C hP hD hS hl)
theorem q_iast (i j : Nat) {x v : Int32} (hn : n < 2 ^ 31) (hi : vq_is n i 20) (hx : x = nI j) (hj : j < gl n i) (hd : decode y.2.1 pc = .ok (.iastore, 1)) (kk : VP l n y d K Q QX k (pc + 1) lv st (upI I i j v) L) : VP l n y d K Q QX k pc lv (.int v :: .int x :: .ref i :: st) I L := by
  intro p e s m args below meth c a cs D A H locs ls C hP hD hS hl
  obtain ⟨q0, hq, hw0⟩ := vq_pos (a := a) (cs := cs) (I := I) (L := L) hi
  rw [vq_ct20 hi.2] at hw0
  obtain ⟨h1, h2⟩ := vq_in hx hj (gl_lt hn i)
  refine va_iast (D := D) C.1 C.2.1 C.2.2.2.2.2.2.2.2.1 hP hD hS q0 0 hw0 rfl h1 hd (fun H1 locs1 hP1 hD1 hS1 => ?_)
  have e9 : (vq_W n a cs I L).set q0 (a i, .inl (cs.1, gl n i, .inl (upd (I i) x.toNatClampNeg v))) = vq_W n a cs (upI I i j v) L := by
    rw [h2, ← upI_self, ← vq_ct20 (n := n) (a := a) (cs := cs) (L := L) hi.2]
    exact vq_set (f := fun x => vq_ct n a cs I L x) (g := fun x => vq_ct n a cs (upI I i j v) L x) hD hq (fun x hx => vq_ct_other (upI_ne hx) rfl)
  rw [e9] at hP1 hD1
  exact kk p e s m args below meth c a cs D A H1 locs1 ls C hP1 hD1 hS1 hl
theorem q_zast (i j : Nat) {x v : Int32} (hn : n < 2 ^ 31) (hi : vq_is n i 22) (hx : x = nI j) (hj : j < gl n i) (hv : vp_nar .boolean v = v) (hd : decode y.2.1 pc = .ok (.bastore, 1)) (kk : VP l n y d K Q QX k (pc + 1) lv st (upI I i j v) L) : VP l n y d K Q QX k pc lv (.int v :: .int x :: .ref i :: st) I L := by
  intro p e s m args below meth c a cs D A H locs ls C hP hD hS hl
  obtain ⟨q0, hq, hw0⟩ := vq_pos (a := a) (cs := cs) (I := I) (L := L) hi
  rw [vq_ct22 hi.2] at hw0
  obtain ⟨h1, h2⟩ := vq_in hx hj (gl_lt hn i)
  refine va_zast (D := D) C.1 C.2.1 C.2.2.2.2.2.2.2.2.1 hP hD hS q0 2 hw0 rfl h1 hd (fun H1 locs1 hP1 hD1 hS1 => ?_)
  have e9 : (vq_W n a cs I L).set q0 (a i, .inl (cs.2.2.1, gl n i, .inl (upd (I i) x.toNatClampNeg (vp_nar .boolean v)))) = vq_W n a cs (upI I i j v) L := by
    rw [h2, hv, ← upI_self, ← vq_ct22 (n := n) (a := a) (cs := cs) (L := L) hi.2]
    exact vq_set (f := fun x => vq_ct n a cs I L x) (g := fun x => vq_ct n a cs (upI I i j v) L x) hD hq (fun x hx => vq_ct_other (upI_ne hx) rfl)
  rw [e9] at hP1 hD1
  exact kk p e s m args below meth c a cs D A H1 locs1 ls C hP1 hD1 hS1 hl
theorem q_last (i j : Nat) {x : Int32} {v : Int64} (hn : n < 2 ^ 31) (hi : vq_is n i 21) (hx : x = nI j) (hj : j < gl n i) (hd : decode y.2.1 pc = .ok (.lastore, 1)) (kk : VP l n y d K Q QX k (pc + 1) lv st I (upL L i j v)) : VP l n y d K Q QX k pc lv (.long v :: .int x :: .ref i :: st) I L := by
  intro p e s m args below meth c a cs D A H locs ls C hP hD hS hl
  obtain ⟨q0, hq, hw0⟩ := vq_pos (a := a) (cs := cs) (I := I) (L := L) hi
  rw [vq_ct21 hi.2] at hw0
  obtain ⟨h1, h2⟩ := vq_in hx hj (gl_lt hn i)
  refine va_last (D := D) C.1 C.2.1 C.2.2.2.2.2.2.2.2.1 hP hD hS q0 1 hw0 rfl h1 hd (fun H1 locs1 hP1 hD1 hS1 => ?_)
  have e9 : (vq_W n a cs I L).set q0 (a i, .inl (cs.2.1, gl n i, .inr (.inl (vp_updL (L i) x.toNatClampNeg v)))) = vq_W n a cs I (upL L i j v) := by
    rw [h2, ← upL_self, ← vq_ct21 (n := n) (a := a) (cs := cs) (I := I) hi.2]
    exact vq_set (f := fun x => vq_ct n a cs I L x) (g := fun x => vq_ct n a cs I (upL L i j v) x) hD hq (fun x hx => vq_ct_other rfl (upL_ne hx))
  rw [e9] at hP1 hD1
  exact kk p e s m args below meth c a cs D A H1 locs1 ls C hP1 hD1 hS1 hl
end VPH
