theorem w_abs : Cond.static Lib.Math.abs.name ∈ WS ∧ Cond.initialized "java/lang/Math" ∈ WS ∧ Cond.code Lib.Math.abs.name Lib.Math.abs.code 1 (some .int) ∈ WS := by decide +kernel
theorem w_min : Cond.static Lib.Math.min.name ∈ WS ∧ Cond.initialized "java/lang/Math" ∈ WS ∧ Cond.code Lib.Math.min.name Lib.Math.min.code 2 (some .int) ∈ WS := by decide +kernel
theorem w_copy : Cond.native arraycopyName ∈ WS ∧ Cond.static arraycopyName ∈ WS ∧ Cond.initialized "java/lang/System" ∈ WS := by decide +kernel
def cpI (I : MI) (i sp dp m : Nat) : MI := fun x z => if x = i then va_cpy (I i) (I i) sp dp m z else I x z
theorem cpI_ne {I : MI} {i sp dp m x : Nat} (h : x ≠ i) : cpI I i sp dp m x = I x := by
  funext z
  simp [cpI, h]
theorem cpI_self {I : MI} {i sp dp m : Nat} : cpI I i sp dp m i = va_cpy (I i) (I i) sp dp m := by
  funext z
  simp [cpI]
section
variable {l : Launch} {n : Nat} {y : vq_M} {d K : Nat} {Q : vq_R} {QX : vq_RX} {k pc : Nat} {lv lv' : List (Nat × Value)} {st : List Value} {I : MI} {L : ML}
theorem q_min {x z : Int32} {ix : Nat} {own : String} (hw : Cond.methodLink own ix Lib.Math.min.name ∈ WS) (ho : y.1.cls = own) (hd : decode y.2.1 pc = .ok (.invokestatic ix, 3)) (hdep : 1 ≤ d) (hrest : (st.map fun v => v.category).sum ≤ 8) (hk : k ≤ K) (kk : VP l n y d K Q QX k (pc + 3) lv (.int (if z < x then z else x) :: st) I L) : VP l n y d K Q QX k pc lv (.int z :: .int x :: st) I L := by
  intro p e s m args below meth c a cs D A H locs ls C hP hD hS hl
  have hts := C.2.2.2.2.2.1
  exact va_mmin C.1 C.2.1 (C.2.2.2.1.trans hl.1.symm) (own := own) (ho ▸ C.2.2.2.2.1) (hts _ hw) (hts _ w_min.1) (hts _ w_min.2.1) (hts _ w_min.2.2) hdep (by rw [vq_cats]; show _ ≤ 64 * d; omega) hk (by show 6 * k ≤ 6 * K; omega) hd (kk p e s m args below meth c a cs D A H locs ls C hP hD hS hl)
theorem q_abs {x : Int32} {ix : Nat} {own : String} (hw : Cond.methodLink own ix Lib.Math.abs.name ∈ WS) (ho : y.1.cls = own) (hd : decode y.2.1 pc = .ok (.invokestatic ix, 3)) (hdep : 1 ≤ d) (hrest : (st.map fun v => v.category).sum ≤ 8) (hk : k ≤ K) (kk : VP l n y d K Q QX k (pc + 3) lv (.int (if 0 ≤ x then x else 0 - x) :: st) I L) : VP l n y d K Q QX k pc lv (.int x :: st) I L := by
  intro p e s m args below meth c a cs D A H locs ls C hP hD hS hl
  have hts := C.2.2.2.2.2.1
  exact va_mabs C.1 C.2.1 (C.2.2.2.1.trans hl.1.symm) (own := own) (ho ▸ C.2.2.2.2.1) (hts _ hw) (hts _ w_abs.1) (hts _ w_abs.2.1) (hts _ w_abs.2.2) hdep (by rw [vq_cats]; show _ ≤ 64 * d; omega) hk (by show 6 * k ≤ 6 * K; omega) hd (kk p e s m args below meth c a cs D A H locs ls C hP hD hS hl)
theorem q_copy (i sp dp c0 : Nat) {x1 x2 x3 : Int32} {ix : Nat} {own : String} (hn : n < 2 ^ 31) (hi : vq_is n i 20) (h1 : x1 = nI sp) (h2 : x2 = nI dp) (h3 : x3 = nI c0) (h4 : sp + c0 ≤ gl n i) (h5 : dp + c0 ≤ gl n i) (hw : Cond.methodLink own ix arraycopyName ∈ WS) (ho : y.1.cls = own) (hd : decode y.2.1 pc = .ok (.invokestatic ix, 3)) (hdep : 1 ≤ d) (hrest : (st.map fun v => v.category).sum ≤ 8) (kk : VP l n y d K Q QX k (pc + 3) lv st (cpI I i sp dp c0) L) : VP l n y d K Q QX k pc lv (.int x3 :: .int x2 :: .ref i :: .int x1 :: .ref i :: st) I L := by
  intro p e s m args below meth c a cs D A H locs ls C hP hD hS hl
  have hts := C.2.2.2.2.2.1
  obtain ⟨q0, hq, hw0⟩ := vq_pos (a := a) (cs := cs) (I := I) (L := L) hi
  rw [vq_ct20 hi.2] at hw0
  have hg := gl_lt hn i
  subst h1; subst h2; subst h3
  have e1 : (nI sp).toNatClampNeg = sp := nI_clamp (by omega)
  have e2 : (nI dp).toNatClampNeg = dp := nI_clamp (by omega)
  have e3 : (nI c0).toNatClampNeg = c0 := nI_clamp (by omega)
  refine va_copyi (D := D) C.1 C.2.1 (C.2.2.2.1.trans hl.1.symm) (own := own) (ho ▸ C.2.2.2.2.1) (hts _ hw) (hts _ w_copy.1) (hts _ w_copy.2.1) (hts _ w_copy.2.2) C.2.2.2.2.2.2.2.2.1 hP hD hS q0 q0 0 0 hw0 hw0 rfl rfl rfl (nI_pos (by omega)) (nI_pos (by omega)) (nI_pos (by omega)) (by rw [e1, e3]; exact h4) (by rw [e2, e3]; exact h5) (fun i _ => rfl) hdep ?_ hd (fun H1 locs1 hP1 hD1 hS1 => ?_)
  · rw [vq_cats]
    have e9 : nativeFrameWords "java/lang/System" "arraycopy" 5 + 11 ≤ 56 := by decide
    show _ ≤ 64 * d
    omega
  · rw [e1, e2, e3] at hP1 hD1
    have e9 : (vq_W n a cs I L).set q0 (a i, .inl (cs.1, gl n i, .inl (va_cpy (I i) (I i) sp dp c0))) = vq_W n a cs (cpI I i sp dp c0) L := by
      rw [← cpI_self, ← vq_ct20 (n := n) (a := a) (cs := cs) (L := L) hi.2]
      exact vq_set (f := fun x => vq_ct n a cs I L x) (g := fun x => vq_ct n a cs (cpI I i sp dp c0) L x) hD hq (fun x hx => vq_ct_other (cpI_ne hx) rfl)
    rw [e9] at hP1 hD1
    exact kk p e s m args below meth c a cs D A H1 locs1 ls C hP1 hD1 hS1 hl
end
