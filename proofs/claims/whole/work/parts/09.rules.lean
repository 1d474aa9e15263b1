section VPR
variable {l : Launch} {n : Nat} {y : vq_M} {d K : Nat} {Q : vq_R} {QX : vq_RX} {k pc : Nat} {lv lv' : List (Nat × Value)} {st : List Value} {I : MI} {L : ML}
/-- fewer locals -/
theorem q_lv (lv' : List (Nat × Value)) (h : ∀ q ∈ lv', q ∈ lv) (kk : VP l n y d K Q QX k pc lv' st I L) : VP l n y d K Q QX k pc lv st I L := by
  intro p e s m args below meth c a cs D A H locs ls C hP hD hS hl
  refine kk p e s m args below meth c a cs D A H locs ls C hP hD hS ⟨hl.1, hl.2.1, fun q hq => ?_⟩
  obtain ⟨x, hx, rfl⟩ := List.mem_map.mp hq
  exact hl.2.2 _ (List.mem_map.mpr ⟨x, h x hx, rfl⟩)
theorem q_iconst {z : Int} (v : Int32) (hd : decode y.2.1 pc = .ok (.iconst z, 1)) (hv : Int32.ofInt z = v) (kk : VP l n y d K Q QX k (pc + 1) lv (.int v :: st) I L) : VP l n y d K Q QX k pc lv st I L := by
  intro p e s m args below meth c a cs D A H locs ls C hP hD hS hl
  exact lv_iconst C.1 C.2.1 hd hv (kk p e s m args below meth c a cs D A H locs ls C hP hD hS hl)
theorem q_bipush {z : Int} (v : Int32) (hd : decode y.2.1 pc = .ok (.bipush z, 2)) (hv : (Int8.ofInt z).toInt32 = v) (kk : VP l n y d K Q QX k (pc + 2) lv (.int v :: st) I L) : VP l n y d K Q QX k pc lv st I L := by
  intro p e s m args below meth c a cs D A H locs ls C hP hD hS hl
  exact lv_bipush C.1 C.2.1 hd hv (kk p e s m args below meth c a cs D A H locs ls C hP hD hS hl)
theorem q_sipush {z : Int} (v : Int32) (hd : decode y.2.1 pc = .ok (.sipush z, 3)) (hv : (Int16.ofInt z).toInt32 = v) (kk : VP l n y d K Q QX k (pc + 3) lv (.int v :: st) I L) : VP l n y d K Q QX k pc lv st I L := by
  intro p e s m args below meth c a cs D A H locs ls C hP hD hS hl
  exact lv_sipush C.1 C.2.1 hd hv (kk p e s m args below meth c a cs D A H locs ls C hP hD hS hl)
theorem q_lconst {z : Fin 2} (v : Int64) (hd : decode y.2.1 pc = .ok (.lconst z, 1)) (hv : Int64.ofNat (z : Nat) = v) (kk : VP l n y d K Q QX k (pc + 1) lv (.long v :: st) I L) : VP l n y d K Q QX k pc lv st I L := by
  intro p e s m args below meth c a cs D A H locs ls C hP hD hS hl
  exact lv_lconst C.1 C.2.1 hd hv (kk p e s m args below meth c a cs D A H locs ls C hP hD hS hl)
theorem q_ldc {own : String} {ix : Nat} {v : Int32} (hw : Cond.constant own ix v ∈ WS) (ho : y.1.cls = own) (hd : decode y.2.1 pc = .ok (.ldc ix, 2)) (kk : VP l n y d K Q QX k (pc + 2) lv (.int v :: st) I L) : VP l n y d K Q QX k pc lv st I L := by
  intro p e s m args below meth c a cs D A H locs ls C hP hD hS hl
  exact lv_ldc C.1 C.2.1 (ho ▸ C.2.2.2.2.1) (C.2.2.2.2.2.1 _ hw) hd (kk p e s m args below meth c a cs D A H locs ls C hP hD hS hl)
theorem q_ldc2 {own : String} {ix : Nat} {v : Int64} (hw : Cond.constantLong own ix v ∈ WS) (ho : y.1.cls = own) (hd : decode y.2.1 pc = .ok (.ldc2_w ix, 3)) (kk : VP l n y d K Q QX k (pc + 3) lv (.long v :: st) I L) : VP l n y d K Q QX k pc lv st I L := by
  intro p e s m args below meth c a cs D A H locs ls C hP hD hS hl
  exact lv_ldc2 C.1 C.2.1 (ho ▸ C.2.2.2.2.1) (C.2.2.2.2.2.1 _ hw) hd (kk p e s m args below meth c a cs D A H locs ls C hP hD hS hl)
theorem q_iload {i : Nat} {v : Int32} (hd : decode y.2.1 pc = .ok (.iload i, 2)) (hi : vq_lk lv i = some (.int v)) (kk : VP l n y d K Q QX k (pc + 2) lv (.int v :: st) I L) : VP l n y d K Q QX k pc lv st I L := by
  intro p e s m args below meth c a cs D A H locs ls C hP hD hS hl
  exact lv_iload C.1 C.2.1 hd (vq_lkm hl hi) (kk p e s m args below meth c a cs D A H locs ls C hP hD hS hl)
theorem q_iload_n {i : Fin 4} {v : Int32} (hd : decode y.2.1 pc = .ok (.iload_n i, 1)) (hi : vq_lk lv i.1 = some (.int v)) (kk : VP l n y d K Q QX k (pc + 1) lv (.int v :: st) I L) : VP l n y d K Q QX k pc lv st I L := by
  intro p e s m args below meth c a cs D A H locs ls C hP hD hS hl
  exact lv_iload_n C.1 C.2.1 hd rfl (vq_lkm hl hi) (kk p e s m args below meth c a cs D A H locs ls C hP hD hS hl)
theorem q_lload {i : Nat} {v : Int64} (hd : decode y.2.1 pc = .ok (.lload i, 2)) (hi : vq_lk lv i = some (.long v)) (kk : VP l n y d K Q QX k (pc + 2) lv (.long v :: st) I L) : VP l n y d K Q QX k pc lv st I L := by
  intro p e s m args below meth c a cs D A H locs ls C hP hD hS hl
  exact lv_lload C.1 C.2.1 hd (vq_lkm hl hi) (kk p e s m args below meth c a cs D A H locs ls C hP hD hS hl)
theorem q_lload_n {i : Fin 4} {v : Int64} (hd : decode y.2.1 pc = .ok (.lload_n i, 1)) (hi : vq_lk lv i.1 = some (.long v)) (kk : VP l n y d K Q QX k (pc + 1) lv (.long v :: st) I L) : VP l n y d K Q QX k pc lv st I L := by
  intro p e s m args below meth c a cs D A H locs ls C hP hD hS hl
  exact lv_lload_n C.1 C.2.1 hd rfl (vq_lkm hl hi) (kk p e s m args below meth c a cs D A H locs ls C hP hD hS hl)
theorem q_aload {i : Nat} {v : Nat} (hd : decode y.2.1 pc = .ok (.aload i, 2)) (hi : vq_lk lv i = some (.ref v)) (kk : VP l n y d K Q QX k (pc + 2) lv (.ref v :: st) I L) : VP l n y d K Q QX k pc lv st I L := by
  intro p e s m args below meth c a cs D A H locs ls C hP hD hS hl
  exact lv_aload C.1 C.2.1 hd (vq_lkm hl hi) (kk p e s m args below meth c a cs D A H locs ls C hP hD hS hl)
theorem q_aload_n {i : Fin 4} {v : Nat} (hd : decode y.2.1 pc = .ok (.aload_n i, 1)) (hi : vq_lk lv i.1 = some (.ref v)) (kk : VP l n y d K Q QX k (pc + 1) lv (.ref v :: st) I L) : VP l n y d K Q QX k pc lv st I L := by
  intro p e s m args below meth c a cs D A H locs ls C hP hD hS hl
  exact lv_aload_n C.1 C.2.1 hd rfl (vq_lkm hl hi) (kk p e s m args below meth c a cs D A H locs ls C hP hD hS hl)
theorem q_istore {i : Nat} {v : Int32} (lv' : List (Nat × Value)) (hd : decode y.2.1 pc = .ok (.istore i, 2)) (hn : i < y.2.2.1) (hl' : (i, Value.int v) :: lv.filter (fun q => !(q.1 == i) && !(q.1 + 1 == i && q.2.category == 2)) = lv') (kk : VP l n y d K Q QX k (pc + 2) lv' st I L) : VP l n y d K Q QX k pc lv (.int v :: st) I L := by
  intro p e s m args below meth c a cs D A H locs ls C hP hD hS hl
  subst hl'
  exact lv_istore C.1 C.2.1 hd hl hn (congrArg _ (vq_filt a (fun x z => !(x == i) && !(x + 1 == i && z == 2)) lv)) (fun ls' hl' => kk p e s m args below meth c a cs D A H locs ls' C hP hD hS hl')
theorem q_istore_n {i : Fin 4} {v : Int32} (lv' : List (Nat × Value)) (hd : decode y.2.1 pc = .ok (.istore_n i, 1)) (hn : i.1 < y.2.2.1) (hl' : (i.1, Value.int v) :: lv.filter (fun q => !(q.1 == i.1) && !(q.1 + 1 == i.1 && q.2.category == 2)) = lv') (kk : VP l n y d K Q QX k (pc + 1) lv' st I L) : VP l n y d K Q QX k pc lv (.int v :: st) I L := by
  intro p e s m args below meth c a cs D A H locs ls C hP hD hS hl
  subst hl'
  exact lv_istore_n C.1 C.2.1 hd rfl hl hn (congrArg _ (vq_filt a (fun x z => !(x == i.1) && !(x + 1 == i.1 && z == 2)) lv)) (fun ls' hl' => kk p e s m args below meth c a cs D A H locs ls' C hP hD hS hl')
theorem q_lstore {i : Nat} {v : Int64} (lv' : List (Nat × Value)) (hd : decode y.2.1 pc = .ok (.lstore i, 2)) (hn : i + 1 < y.2.2.1) (hl' : (i, Value.long v) :: lv.filter (fun q => !(q.1 == i) && (!(q.1 == i + 1) && !(q.1 + 1 == i && q.2.category == 2))) = lv') (kk : VP l n y d K Q QX k (pc + 2) lv' st I L) : VP l n y d K Q QX k pc lv (.long v :: st) I L := by
  intro p e s m args below meth c a cs D A H locs ls C hP hD hS hl
  subst hl'
  exact lv_lstore C.1 C.2.1 hd hl hn (congrArg _ (vq_filt a (fun x z => !(x == i) && (!(x == i + 1) && !(x + 1 == i && z == 2))) lv)) (fun ls' hl' => kk p e s m args below meth c a cs D A H locs ls' C hP hD hS hl')
theorem q_astore {i : Nat} {v : Nat} (lv' : List (Nat × Value)) (hd : decode y.2.1 pc = .ok (.astore i, 2)) (hn : i < y.2.2.1) (hl' : (i, Value.ref v) :: lv.filter (fun q => !(q.1 == i) && !(q.1 + 1 == i && q.2.category == 2)) = lv') (kk : VP l n y d K Q QX k (pc + 2) lv' st I L) : VP l n y d K Q QX k pc lv (.ref v :: st) I L := by
  intro p e s m args below meth c a cs D A H locs ls C hP hD hS hl
  subst hl'
  exact lv_astore C.1 C.2.1 hd hl hn (congrArg _ (vq_filt a (fun x z => !(x == i) && !(x + 1 == i && z == 2)) lv)) (fun ls' hl' => kk p e s m args below meth c a cs D A H locs ls' C hP hD hS hl')
theorem q_astore_n {i : Fin 4} {v : Nat} (lv' : List (Nat × Value)) (hd : decode y.2.1 pc = .ok (.astore_n i, 1)) (hn : i.1 < y.2.2.1) (hl' : (i.1, Value.ref v) :: lv.filter (fun q => !(q.1 == i.1) && !(q.1 + 1 == i.1 && q.2.category == 2)) = lv') (kk : VP l n y d K Q QX k (pc + 1) lv' st I L) : VP l n y d K Q QX k pc lv (.ref v :: st) I L := by
  intro p e s m args below meth c a cs D A H locs ls C hP hD hS hl
  subst hl'
  exact lv_astore_n C.1 C.2.1 hd rfl hl hn (congrArg _ (vq_filt a (fun x z => !(x == i.1) && !(x + 1 == i.1 && z == 2)) lv)) (fun ls' hl' => kk p e s m args below meth c a cs D A H locs ls' C hP hD hS hl')
theorem q_iinc {i : Nat} {z : Int} {x : Int32} (lv' : List (Nat × Value)) (v : Int32) (hd : decode y.2.1 pc = .ok (.iinc i z, 3)) (hi : vq_lk lv i = some (.int x)) (hv : x + Int32.ofInt z = v) (hn : i < y.2.2.1) (hl' : (i, Value.int v) :: lv.filter (fun q => !(q.1 == i) && !(q.1 + 1 == i && q.2.category == 2)) = lv') (kk : VP l n y d K Q QX k (pc + 3) lv' st I L) : VP l n y d K Q QX k pc lv st I L := by
  intro p e s m args below meth c a cs D A H locs ls C hP hD hS hl
  subst hl'
  obtain ⟨j, hj⟩ := List.getElem?_of_mem (vq_lk_mem hi)
  exact lv_iinc C.1 C.2.1 hd hl (k := j) (by rw [List.getElem?_map, hj]; rfl) hv hn (congrArg _ (vq_filt a (fun x z => !(x == i) && !(x + 1 == i && z == 2)) lv)) (fun ls' hl' => kk p e s m args below meth c a cs D A H locs ls' C hP hD hS hl')
theorem q_iadd {x z : Int32} (hd : decode y.2.1 pc = .ok (.iadd, 1)) (kk : VP l n y d K Q QX k (pc + 1) lv (.int (x + z) :: st) I L) : VP l n y d K Q QX k pc lv (.int z :: .int x :: st) I L := by
  intro p e s m args below meth c a cs D A H locs ls C hP hD hS hl
  exact lv_iadd C.1 C.2.1 hd (kk p e s m args below meth c a cs D A H locs ls C hP hD hS hl)
theorem q_isub {x z : Int32} (hd : decode y.2.1 pc = .ok (.isub, 1)) (kk : VP l n y d K Q QX k (pc + 1) lv (.int (x - z) :: st) I L) : VP l n y d K Q QX k pc lv (.int z :: .int x :: st) I L := by
  intro p e s m args below meth c a cs D A H locs ls C hP hD hS hl
  exact lv_isub C.1 C.2.1 hd (kk p e s m args below meth c a cs D A H locs ls C hP hD hS hl)
theorem q_imul {x z : Int32} (hd : decode y.2.1 pc = .ok (.imul, 1)) (kk : VP l n y d K Q QX k (pc + 1) lv (.int (x * z) :: st) I L) : VP l n y d K Q QX k pc lv (.int z :: .int x :: st) I L := by
  intro p e s m args below meth c a cs D A H locs ls C hP hD hS hl
  exact lv_imul C.1 C.2.1 hd (kk p e s m args below meth c a cs D A H locs ls C hP hD hS hl)
theorem q_iand {x z : Int32} (hd : decode y.2.1 pc = .ok (.iand, 1)) (kk : VP l n y d K Q QX k (pc + 1) lv (.int (x &&& z) :: st) I L) : VP l n y d K Q QX k pc lv (.int z :: .int x :: st) I L := by
  intro p e s m args below meth c a cs D A H locs ls C hP hD hS hl
  exact lv_iand C.1 C.2.1 hd (kk p e s m args below meth c a cs D A H locs ls C hP hD hS hl)
theorem q_ixor {x z : Int32} (hd : decode y.2.1 pc = .ok (.ixor, 1)) (kk : VP l n y d K Q QX k (pc + 1) lv (.int (x ^^^ z) :: st) I L) : VP l n y d K Q QX k pc lv (.int z :: .int x :: st) I L := by
  intro p e s m args below meth c a cs D A H locs ls C hP hD hS hl
  exact lv_ixor C.1 C.2.1 hd (kk p e s m args below meth c a cs D A H locs ls C hP hD hS hl)
theorem q_irem {x z : Int32} (hd : decode y.2.1 pc = .ok (.irem, 1)) (hz : ¬ z = 0) (kk : VP l n y d K Q QX k (pc + 1) lv (.int (x - x / z * z) :: st) I L) : VP l n y d K Q QX k pc lv (.int z :: .int x :: st) I L := by
  intro p e s m args below meth c a cs D A H locs ls C hP hD hS hl
  exact lv_irem C.1 C.2.1 hd hz (kk p e s m args below meth c a cs D A H locs ls C hP hD hS hl)
theorem q_ineg {x : Int32} (hd : decode y.2.1 pc = .ok (.ineg, 1)) (kk : VP l n y d K Q QX k (pc + 1) lv (.int (-x) :: st) I L) : VP l n y d K Q QX k pc lv (.int x :: st) I L := by
  intro p e s m args below meth c a cs D A H locs ls C hP hD hS hl
  exact lv_ineg C.1 C.2.1 hd (kk p e s m args below meth c a cs D A H locs ls C hP hD hS hl)
theorem q_ladd {x z : Int64} (hd : decode y.2.1 pc = .ok (.ladd, 1)) (kk : VP l n y d K Q QX k (pc + 1) lv (.long (x + z) :: st) I L) : VP l n y d K Q QX k pc lv (.long z :: .long x :: st) I L := by
  intro p e s m args below meth c a cs D A H locs ls C hP hD hS hl
  exact lv_ladd C.1 C.2.1 hd (kk p e s m args below meth c a cs D A H locs ls C hP hD hS hl)
theorem q_lsub {x z : Int64} (hd : decode y.2.1 pc = .ok (.lsub, 1)) (kk : VP l n y d K Q QX k (pc + 1) lv (.long (x - z) :: st) I L) : VP l n y d K Q QX k pc lv (.long z :: .long x :: st) I L := by
  intro p e s m args below meth c a cs D A H locs ls C hP hD hS hl
  exact lv_lsub C.1 C.2.1 hd (kk p e s m args below meth c a cs D A H locs ls C hP hD hS hl)
theorem q_i2l {x : Int32} (hd : decode y.2.1 pc = .ok (.i2l, 1)) (kk : VP l n y d K Q QX k (pc + 1) lv (.long x.toInt64 :: st) I L) : VP l n y d K Q QX k pc lv (.int x :: st) I L := by
  intro p e s m args below meth c a cs D A H locs ls C hP hD hS hl
  exact lv_i2l C.1 C.2.1 hd rfl (kk p e s m args below meth c a cs D A H locs ls C hP hD hS hl)
theorem q_lcmp {x z : Int64} (hd : decode y.2.1 pc = .ok (.lcmp, 1)) (kk : VP l n y d K Q QX k (pc + 1) lv (.int (lg_cmp x z) :: st) I L) : VP l n y d K Q QX k pc lv (.long z :: .long x :: st) I L := by
  intro p e s m args below meth c a cs D A H locs ls C hP hD hS hl
  exact W.lcmp C.1 C.2.1 hd (kk p e s m args below meth c a cs D A H locs ls C hP hD hS hl)
theorem q_dup {v : Value} (hd : decode y.2.1 pc = .ok (.dup, 1)) (hv : v.category = 1) (kk : VP l n y d K Q QX k (pc + 1) lv (v :: v :: st) I L) : VP l n y d K Q QX k pc lv (v :: st) I L := by
  intro p e s m args below meth c a cs D A H locs ls C hP hD hS hl
  exact lv_dup C.1 C.2.1 hd (by rw [vq_cat]; exact hv) (kk p e s m args below meth c a cs D A H locs ls C hP hD hS hl)
theorem q_pop {v : Value} (hd : decode y.2.1 pc = .ok (.pop, 1)) (hv : v.category = 1) (kk : VP l n y d K Q QX k (pc + 1) lv (st) I L) : VP l n y d K Q QX k pc lv (v :: st) I L := by
  intro p e s m args below meth c a cs D A H locs ls C hP hD hS hl
  exact lv_pop C.1 C.2.1 hd (by rw [vq_cat]; exact hv) (kk p e s m args below meth c a cs D A H locs ls C hP hD hS hl)
theorem q_dup2 {v w : Value} (hd : decode y.2.1 pc = .ok (.dup2, 1)) (hv : v.category = 1) (hw : w.category = 1) (kk : VP l n y d K Q QX k (pc + 1) lv (v :: w :: v :: w :: st) I L) : VP l n y d K Q QX k pc lv (v :: w :: st) I L := by
  intro p e s m args below meth c a cs D A H locs ls C hP hD hS hl
  exact lv_dup2_11 C.1 C.2.1 hd (by rw [vq_cat]; exact hv) (by rw [vq_cat]; exact hw) (kk p e s m args below meth c a cs D A H locs ls C hP hD hS hl)
theorem q_if_eq {x : Int32} {off : Int} (tgt : Nat) (hd : decode y.2.1 pc = .ok (.ifCond .eq off, 3)) (ht : (pc : Int) + off = (tgt : Int)) (kt : x = 0 → VP l n y d K Q QX k tgt lv st I L) (kf : ¬ (x = 0) → VP l n y d K Q QX k (pc + 3) lv st I L) : VP l n y d K Q QX k pc lv (.int x :: st) I L := by
  intro p e s m args below meth c a cs D A H locs ls C hP hD hS hl
  exact lv_if_eq C.1 C.2.1 hd ht (fun h => kt h p e s m args below meth c a cs D A H locs ls C hP hD hS hl) (fun h => kf h p e s m args below meth c a cs D A H locs ls C hP hD hS hl)
theorem q_icmp_eq {x z : Int32} {off : Int} (tgt : Nat) (hd : decode y.2.1 pc = .ok (.if_icmp .eq off, 3)) (ht : (pc : Int) + off = (tgt : Int)) (kt : x = z → VP l n y d K Q QX k tgt lv st I L) (kf : ¬ (x = z) → VP l n y d K Q QX k (pc + 3) lv st I L) : VP l n y d K Q QX k pc lv (.int z :: .int x :: st) I L := by
  intro p e s m args below meth c a cs D A H locs ls C hP hD hS hl
  exact lv_icmp_eq C.1 C.2.1 hd ht (fun h => kt h p e s m args below meth c a cs D A H locs ls C hP hD hS hl) (fun h => kf h p e s m args below meth c a cs D A H locs ls C hP hD hS hl)
theorem q_if_ne {x : Int32} {off : Int} (tgt : Nat) (hd : decode y.2.1 pc = .ok (.ifCond .ne off, 3)) (ht : (pc : Int) + off = (tgt : Int)) (kt : x ≠ 0 → VP l n y d K Q QX k tgt lv st I L) (kf : x = 0 → VP l n y d K Q QX k (pc + 3) lv st I L) : VP l n y d K Q QX k pc lv (.int x :: st) I L := by
  intro p e s m args below meth c a cs D A H locs ls C hP hD hS hl
  exact lv_if_ne C.1 C.2.1 hd ht (fun h => kt h p e s m args below meth c a cs D A H locs ls C hP hD hS hl) (fun h => kf h p e s m args below meth c a cs D A H locs ls C hP hD hS hl)
theorem q_icmp_ne {x z : Int32} {off : Int} (tgt : Nat) (hd : decode y.2.1 pc = .ok (.if_icmp .ne off, 3)) (ht : (pc : Int) + off = (tgt : Int)) (kt : x ≠ z → VP l n y d K Q QX k tgt lv st I L) (kf : x = z → VP l n y d K Q QX k (pc + 3) lv st I L) : VP l n y d K Q QX k pc lv (.int z :: .int x :: st) I L := by
  intro p e s m args below meth c a cs D A H locs ls C hP hD hS hl
  exact lv_icmp_ne C.1 C.2.1 hd ht (fun h => kt h p e s m args below meth c a cs D A H locs ls C hP hD hS hl) (fun h => kf h p e s m args below meth c a cs D A H locs ls C hP hD hS hl)
theorem q_if_lt {x : Int32} {off : Int} (tgt : Nat) (hd : decode y.2.1 pc = .ok (.ifCond .lt off, 3)) (ht : (pc : Int) + off = (tgt : Int)) (kt : x < 0 → VP l n y d K Q QX k tgt lv st I L) (kf : ¬ (x < 0) → VP l n y d K Q QX k (pc + 3) lv st I L) : VP l n y d K Q QX k pc lv (.int x :: st) I L := by
  intro p e s m args below meth c a cs D A H locs ls C hP hD hS hl
  exact lv_if_lt C.1 C.2.1 hd ht (fun h => kt h p e s m args below meth c a cs D A H locs ls C hP hD hS hl) (fun h => kf h p e s m args below meth c a cs D A H locs ls C hP hD hS hl)
theorem q_icmp_lt {x z : Int32} {off : Int} (tgt : Nat) (hd : decode y.2.1 pc = .ok (.if_icmp .lt off, 3)) (ht : (pc : Int) + off = (tgt : Int)) (kt : x < z → VP l n y d K Q QX k tgt lv st I L) (kf : ¬ (x < z) → VP l n y d K Q QX k (pc + 3) lv st I L) : VP l n y d K Q QX k pc lv (.int z :: .int x :: st) I L := by
  intro p e s m args below meth c a cs D A H locs ls C hP hD hS hl
  exact lv_icmp_lt C.1 C.2.1 hd ht (fun h => kt h p e s m args below meth c a cs D A H locs ls C hP hD hS hl) (fun h => kf h p e s m args below meth c a cs D A H locs ls C hP hD hS hl)
theorem q_if_ge {x : Int32} {off : Int} (tgt : Nat) (hd : decode y.2.1 pc = .ok (.ifCond .ge off, 3)) (ht : (pc : Int) + off = (tgt : Int)) (kt : 0 ≤ x → VP l n y d K Q QX k tgt lv st I L) (kf : ¬ (0 ≤ x) → VP l n y d K Q QX k (pc + 3) lv st I L) : VP l n y d K Q QX k pc lv (.int x :: st) I L := by
  intro p e s m args below meth c a cs D A H locs ls C hP hD hS hl
  exact lv_if_ge C.1 C.2.1 hd ht (fun h => kt h p e s m args below meth c a cs D A H locs ls C hP hD hS hl) (fun h => kf h p e s m args below meth c a cs D A H locs ls C hP hD hS hl)
theorem q_icmp_ge {x z : Int32} {off : Int} (tgt : Nat) (hd : decode y.2.1 pc = .ok (.if_icmp .ge off, 3)) (ht : (pc : Int) + off = (tgt : Int)) (kt : z ≤ x → VP l n y d K Q QX k tgt lv st I L) (kf : ¬ (z ≤ x) → VP l n y d K Q QX k (pc + 3) lv st I L) : VP l n y d K Q QX k pc lv (.int z :: .int x :: st) I L := by
  intro p e s m args below meth c a cs D A H locs ls C hP hD hS hl
  exact lv_icmp_ge C.1 C.2.1 hd ht (fun h => kt h p e s m args below meth c a cs D A H locs ls C hP hD hS hl) (fun h => kf h p e s m args below meth c a cs D A H locs ls C hP hD hS hl)
theorem q_if_gt {x : Int32} {off : Int} (tgt : Nat) (hd : decode y.2.1 pc = .ok (.ifCond .gt off, 3)) (ht : (pc : Int) + off = (tgt : Int)) (kt : 0 < x → VP l n y d K Q QX k tgt lv st I L) (kf : ¬ (0 < x) → VP l n y d K Q QX k (pc + 3) lv st I L) : VP l n y d K Q QX k pc lv (.int x :: st) I L := by
  intro p e s m args below meth c a cs D A H locs ls C hP hD hS hl
  exact lv_if_gt C.1 C.2.1 hd ht (fun h => kt h p e s m args below meth c a cs D A H locs ls C hP hD hS hl) (fun h => kf h p e s m args below meth c a cs D A H locs ls C hP hD hS hl)
theorem q_icmp_gt {x z : Int32} {off : Int} (tgt : Nat) (hd : decode y.2.1 pc = .ok (.if_icmp .gt off, 3)) (ht : (pc : Int) + off = (tgt : Int)) (kt : z < x → VP l n y d K Q QX k tgt lv st I L) (kf : ¬ (z < x) → VP l n y d K Q QX k (pc + 3) lv st I L) : VP l n y d K Q QX k pc lv (.int z :: .int x :: st) I L := by
  intro p e s m args below meth c a cs D A H locs ls C hP hD hS hl
  exact lv_icmp_gt C.1 C.2.1 hd ht (fun h => kt h p e s m args below meth c a cs D A H locs ls C hP hD hS hl) (fun h => kf h p e s m args below meth c a cs D A H locs ls C hP hD hS hl)
theorem q_if_le {x : Int32} {off : Int} (tgt : Nat) (hd : decode y.2.1 pc = .ok (.ifCond .le off, 3)) (ht : (pc : Int) + off = (tgt : Int)) (kt : x ≤ 0 → VP l n y d K Q QX k tgt lv st I L) (kf : ¬ (x ≤ 0) → VP l n y d K Q QX k (pc + 3) lv st I L) : VP l n y d K Q QX k pc lv (.int x :: st) I L := by
  intro p e s m args below meth c a cs D A H locs ls C hP hD hS hl
  exact lv_if_le C.1 C.2.1 hd ht (fun h => kt h p e s m args below meth c a cs D A H locs ls C hP hD hS hl) (fun h => kf h p e s m args below meth c a cs D A H locs ls C hP hD hS hl)
theorem q_icmp_le {x z : Int32} {off : Int} (tgt : Nat) (hd : decode y.2.1 pc = .ok (.if_icmp .le off, 3)) (ht : (pc : Int) + off = (tgt : Int)) (kt : x ≤ z → VP l n y d K Q QX k tgt lv st I L) (kf : ¬ (x ≤ z) → VP l n y d K Q QX k (pc + 3) lv st I L) : VP l n y d K Q QX k pc lv (.int z :: .int x :: st) I L := by
  intro p e s m args below meth c a cs D A H locs ls C hP hD hS hl
  exact lv_icmp_le C.1 C.2.1 hd ht (fun h => kt h p e s m args below meth c a cs D A H locs ls C hP hD hS hl) (fun h => kf h p e s m args below meth c a cs D A H locs ls C hP hD hS hl)
theorem q_goto {off : Int} (tgt : Nat) (hd : decode y.2.1 pc = .ok (.goto off, 3)) (ht : (pc : Int) + off = (tgt : Int)) (kk : VP l n y d K Q QX k tgt lv (st) I L) : VP l n y d K Q QX k pc lv (st) I L := by
  intro p e s m args below meth c a cs D A H locs ls C hP hD hS hl
  exact lv_goto C.1 C.2.1 hd ht (kk p e s m args below meth c a cs D A H locs ls C hP hD hS hl)
theorem q_swIn {dflt lo hi : Int} {offs : Array Int} {len : Nat} {x : Int32} {off : Int} (tgt : Nat) (hd : decode y.2.1 pc = .ok (.tableswitch dflt lo hi offs, len)) (h1 : ¬ x.toInt < lo) (h2 : ¬ hi < x.toInt) (ho : offs[(x.toInt - lo).toNat]? = some off) (ht : (pc : Int) + off = (tgt : Int)) (kk : VP l n y d K Q QX k tgt lv (st) I L) : VP l n y d K Q QX k pc lv (.int x :: st) I L := by
  intro p e s m args below meth c a cs D A H locs ls C hP hD hS hl
  exact lv_tableIn C.1 C.2.1 hd h1 h2 ho ht (kk p e s m args below meth c a cs D A H locs ls C hP hD hS hl)
theorem q_swOut {dflt lo hi : Int} {offs : Array Int} {len : Nat} {x : Int32} (tgt : Nat) (hd : decode y.2.1 pc = .ok (.tableswitch dflt lo hi offs, len)) (h : x.toInt < lo ∨ hi < x.toInt) (ht : (pc : Int) + dflt = (tgt : Int)) (kk : VP l n y d K Q QX k tgt lv (st) I L) : VP l n y d K Q QX k pc lv (.int x :: st) I L := by
  intro p e s m args below meth c a cs D A H locs ls C hP hD hS hl
  exact lv_tableOut C.1 C.2.1 hd h ht (kk p e s m args below meth c a cs D A H locs ls C hP hD hS hl)
end VPR
