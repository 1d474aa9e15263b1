/-! ===== throws ===== -/
abbrev xnm : List String := ["java/lang/RuntimeException", "java/lang/Exception"]
/-- what a throw of the class cls needs of the words -/
def xok (cls : String) (ik ic : Nat) : Prop := Cond.classLink RX9 ik cls ∈ WS ∧ Cond.initialized cls ∈ WS ∧ (∀ w ∈ (vx_atS RX9 ic cls xnm).filter goodWord, w ∈ WS) ∧ (∀ w ∈ (vx_atS RX9 ic cls xnm).filter (fun w => !goodWord w), w ∈ Cond.castable cls cls :: vq_bd.map Cond.declares) ∧ (∀ w ∈ Cond.classLink RX9 ik cls :: Cond.initialized cls :: vx_atS RX9 ic cls xnm, vx_ot w = true) ∧ cls ∈ vq_bc ∧ Bundle.fit cls = true
theorem x_ISE : xok "java/lang/IllegalStateException" 51 55 := ⟨by decide +kernel, by decide +kernel, in_T1, by decide +kernel, by decide +kernel, by decide +kernel, by decide +kernel⟩
theorem x_IAE : xok "java/lang/IllegalArgumentException" 65 69 := ⟨by decide +kernel, by decide +kernel, in_T2, by decide +kernel, by decide +kernel, by decide +kernel, by decide +kernel⟩
theorem x_IOB : xok "java/lang/IndexOutOfBoundsException" 228 232 := ⟨by decide +kernel, by decide +kernel, in_T0, by decide +kernel, by decide +kernel, by decide +kernel, by decide +kernel⟩
theorem xnm_fit : ∀ n ∈ xnm, Bundle.fit n = true := by decide +kernel
section
variable {l : Launch} {n : Nat} {y : vq_M} {d K : Nat} {Q : vq_R} {QX : vq_RX} {k pc : Nat} {lv lv' : List (Nat × Value)} {st : List Value} {I : MI} {L : ML}
theorem q_throw {cls text : String} {ik is ic : Nat} (hl : l.stackTraces = false) (hx : xok cls ik ic) (ho : y.1.cls = RX9) (htx : ("LoopGroup", is, text) ∈ vq_txt)
    (d0 : decode y.2.1 pc = .ok (.new ik, 3)) (d3 : decode y.2.1 (pc + 3) = .ok (.dup, 1)) (d4 : decode y.2.1 (pc + 4) = .ok (.ldc is, 2)) (d6 : decode y.2.1 (pc + 6) = .ok (.invokespecial ic, 3)) (d9 : decode y.2.1 (pc + 9) = .ok (.athrow, 1))
    (hd : 10 ≤ d) (hst : (st.map fun v => v.category).sum ≤ 8) (hk : k + 1 ≤ K) (hQ : QX cls I L) : VP l n y d K Q QX k pc lv st I L := by
  intro p e s m args below meth c a cs D A H locs ls C hP hD hS hlv
  obtain ⟨x1, x2, x3, x4, x5, x6, x7⟩ := hx
  have hts := C.2.2.2.2.2.1
  obtain ⟨z1, z2, z3, z4, z5⟩ := C.2.2.2.2.2.2.2.2.2.1
  obtain ⟨sa, hsa⟩ := z5 _ htx
  have hown : s.vm.findClass RX9 = some m.cls := ho ▸ C.2.2.2.2.1
  refine vx_throwS (own := RX9) (cls := cls) (text := text) (names := xnm) (sa := sa) (A := A) C.1 C.2.1 hl hown x7 xnm_fit (hts _ x1) (hts _ x2) hsa ?_ x5 z1 z2 hS (hlv.1.trans C.2.2.2.1.symm) d0 d3 d4 d6 d9 (fun x hx => (C.2.2.2.2.2.2.2.1 x hx).elim) ?_ ?_ ?_ ?_ C.2.2.2.2.2.2.1 (fun t hvm h1 h2 => ?_) hS.2.2 hk (by omega)
  · refine vx_hat (fun w hw => hts w (x3 w hw)) x4 (fun w hw => ?_)
    rcases List.mem_cons.mp hw with rfl | hw
    · exact va_Nw.use rfl (z4 cls x6)
    · obtain ⟨q, hq, rfl⟩ := List.mem_map.mp hw
      exact va_Nw.use rfl (z3 q hq)
  · show 2 + 3 < d
    omega
  · rw [vq_cats]
    show _ + (13 * (2 + 1) + 43) ≤ 64 * d
    omega
  · exact hk
  · show 6 * k + 6 ≤ 6 * K
    omega
  · refine ⟨(I, L), trivial, ⟨hQ, hP.kept (fun k q hk => h2 q.1 ((hP k q hk).lt)), va_K.moved hvm C.2.2.2.2.2.2.2.2.1, hD⟩, ⟨Nat.le_trans hS.1 h1, fun q hq hA => ?_⟩⟩
    rw [h2 q (Nat.lt_of_lt_of_le hq hS.1)]
    exact hS.2.1 q hq hA
end
