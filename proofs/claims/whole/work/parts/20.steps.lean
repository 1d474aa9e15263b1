set_option maxHeartbeats 1000000 in
theorem Inv_ch {n : Nat} {S : MI} (h : Inv n S) : Inv n (FchS S) := by
  obtain ⟨h1, h2, h3, h4, h5, h6, h7, h8⟩ := h
  refine ⟨h1, (by simpa [FchS, upI_ne, rdI] using h2), InvT_cong h3 (by simp [FchS, upI_ne, rdI]) (by simp [FchS, upI_ne, rdI]), InvP_cong h4 (by simp [FchS, upI_ne, rdI]) (by simp [FchS, upI_ne, rdI]) (by simp [FchS, upI_ne, rdI]) (by simp [FchS, upI_ne, rdI]) (by simp [FchS, upI_ne, rdI]), InvC_cong h5 (by simp [FchS, upI_ne, rdI]) (by simp [FchS, upI_ne, rdI]) (by simp [FchS, upI_ne, rdI]) (by simp [FchS, upI_ne, rdI]) (by simp [FchS, upI_ne, rdI]) (by simp [FchS, upI_ne, rdI]), InvM_cong h6 (by simp [FchS, upI_ne, rdI]) (by simp [FchS, upI_ne, rdI]) (by simp [FchS, upI_ne, rdI]) (by simp [FchS, upI_ne, rdI]), fun l hl => ⟨InvQ_cong (h7 l hl).1 (by simp [FchS, upI_ne, rdI]) (by simp [FchS, upI_ne, rdI]) (by simp [FchS, upI_ne, rdI]) (fun j hj => by simp [FchS, upI_ne, rdI]) (fun j hj => by simp [FchS, upI_ne, rdI]), InvB_cong (h7 l hl).2.1 (by simp [FchS, upI_ne, rdI]) (by simp [FchS, upI_ne, rdI]) (by simp [FchS, upI_ne, rdI]) (by simp [FchS, upI_ne, rdI]) (by simp [FchS, upI_ne, rdI]) (by simp [FchS, upI_ne, rdI]), InvS_cong (h7 l hl).2.2 (by simp [FchS, upI_ne, rdI])⟩, (by simpa [FchS, upI_ne, rdI] using h8)⟩
set_option maxHeartbeats 1000000 in
theorem CX_ch {n w nf fr : Nat} {S I J : MI} {T L M : ML} (h : CX n S T w nf fr J M I L)  : CX n (FchS S) (T) w nf fr J M (upI I 2 3 (I 2 3 + 1)) (L) := by
  obtain ⟨h1, h2, h3, h4, h5, h6⟩ := id h.1
  have hV := h.2.1.2.2.2.2.2.2.1
  refine CX_of h ⟨?_, ?_, ?_, ?_, ?_, fun l hl => ⟨?_, ?_, ?_⟩⟩ (Inv_ch h.2.1) (by simp [FchS, upI_ne, upL_ne, rdI, rdL, lid_eq, lid_ne, ne_lid]) (fun i9 h79 h89 => ?_)
  · simpa [CRt, FchS, upI_ne, upL_ne, rdI, rdL, lid_eq, lid_ne, ne_lid] using h1
  · simpa [CRk, FchS, upI_ne, upL_ne, rdI, rdL, lid_eq, lid_ne, ne_lid] using h2
  · simpa [CRp, FchS, upI_ne, upL_ne, rdI, rdL, lid_eq, lid_ne, ne_lid] using h3
  · simpa [CRc, FchS, upI_ne, upL_ne, rdI, rdL, lid_eq, lid_ne, ne_lid] using h4
  · obtain ⟨a1, a2, a3⟩ := h5
    exact ⟨a1, by simp [FchS, rdI, a2], by simpa [FchS, rdI] using a3⟩
  · exact CRq_cong2 (h6 l hl).1 (by simp [FchS, upI_ne, upL_ne, rdI, rdL, lid_eq, lid_ne, ne_lid]) (fun j hj => by simp [FchS, upI_ne, upL_ne, rdI, rdL, lid_eq, lid_ne, ne_lid]) (fun j hj => by simp [FchS, upI_ne, upL_ne, rdI, rdL, lid_eq, lid_ne, ne_lid]) (fun j hj => by simp [FchS, upI_ne, upL_ne, rdI, rdL, lid_eq, lid_ne, ne_lid]) (by simp [FchS, upI_ne, upL_ne, rdI, rdL, lid_eq, lid_ne, ne_lid]) (by simp [FchS, upI_ne, upL_ne, rdI, rdL, lid_eq, lid_ne, ne_lid]) (by simp [FchS, upI_ne, upL_ne, rdI, rdL, lid_eq, lid_ne, ne_lid]) (by simp [FchS, upI_ne, upL_ne, rdI, rdL, lid_eq, lid_ne, ne_lid])
  · exact CRm_cong (h6 l hl).2.1 (by simp [FchS, upI_ne, upL_ne, rdI, rdL, lid_eq, lid_ne, ne_lid]) (by simp [FchS, upI_ne, upL_ne, rdI, rdL, lid_eq, lid_ne, ne_lid]) (by simp [FchS, upI_ne, upL_ne, rdI, rdL, lid_eq, lid_ne, ne_lid]) (by simp [FchS, upI_ne, upL_ne, rdI, rdL, lid_eq, lid_ne, ne_lid]) (by simp [FchS, upI_ne, upL_ne, rdI, rdL, lid_eq, lid_ne, ne_lid]) (by simp [FchS, upI_ne, upL_ne, rdI, rdL, lid_eq, lid_ne, ne_lid]) (by simp [FchS, upI_ne, upL_ne, rdI, rdL, lid_eq, lid_ne, ne_lid]) (by simp [FchS, upI_ne, upL_ne, rdI, rdL, lid_eq, lid_ne, ne_lid])
  · exact CRl_cong (h6 l hl).2.2 (by simp [FchS, upI_ne, upL_ne, rdI, rdL, lid_eq, lid_ne, ne_lid]) (by simp [FchS, upI_ne, upL_ne, rdI, rdL, lid_eq, lid_ne, ne_lid]) (by simp [FchS, upI_ne, upL_ne, rdI, rdL, lid_eq, lid_ne, ne_lid]) (by simp [FchS, upI_ne, upL_ne, rdI, rdL, lid_eq, lid_ne, ne_lid]) (by simp [FchS, upI_ne, upL_ne, rdI, rdL, lid_eq, lid_ne, ne_lid]) (by simp [FchS, upI_ne, upL_ne, rdI, rdL, lid_eq, lid_ne, ne_lid]) (by simp [FchS, upI_ne, upL_ne, rdI, rdL, lid_eq, lid_ne, ne_lid]) (by simp [FchS, upI_ne, upL_ne, rdI, rdL, lid_eq, lid_ne, ne_lid]) (by simp [FchS, upI_ne, upL_ne, rdI, rdL, lid_eq, lid_ne, ne_lid]) (by simp [FchS, upI_ne, upL_ne, rdI, rdL, lid_eq, lid_ne, ne_lid]) (by simp [FchS, upI_ne, upL_ne, rdI, rdL, lid_eq, lid_ne, ne_lid]) (by simp [FchS, upI_ne, upL_ne, rdI, rdL, lid_eq, lid_ne, ne_lid])
  · simp [FchS, upI_ne, upL_ne, rdI, rdL, lid_eq, lid_ne, ne_lid, ne_lid (show i9 < 1000 by omega), show i9 ≠ 1 by omega, show i9 ≠ 2 by omega, show i9 ≠ 3 by omega, show i9 ≠ 4 by omega, show i9 ≠ 5 by omega, show i9 ≠ 6 by omega, show i9 ≠ 330 by omega, show i9 ≠ 340 by omega, show i9 ≠ 341 by omega, show i9 ≠ 342 by omega, show i9 ≠ 343 by omega, show i9 ≠ 350 by omega, show i9 ≠ 351 by omega, show i9 ≠ 352 by omega, show i9 ≠ 353 by omega, show i9 ≠ 354 by omega, show i9 ≠ 355 by omega, show i9 ≠ 360 by omega, show i9 ≠ 361 by omega, show i9 ≠ 362 by omega, show i9 ≠ 363 by omega, show i9 ≠ 364 by omega]
set_option maxHeartbeats 1000000 in
theorem Inv_ba {n : Nat} {S : MI} {i : Nat} (v : Int32) (h : Inv n S) : Inv n (upI S 210 i v) := by
  obtain ⟨h1, h2, h3, h4, h5, h6, h7, h8⟩ := h
  refine ⟨h1, (by simpa [upI_ne, rdI] using h2), InvT_cong h3 (by simp [upI_ne, rdI]) (by simp [upI_ne, rdI]), InvP_cong h4 (by simp [upI_ne, rdI]) (by simp [upI_ne, rdI]) (by simp [upI_ne, rdI]) (by simp [upI_ne, rdI]) (by simp [upI_ne, rdI]), InvC_cong h5 (by simp [upI_ne, rdI]) (by simp [upI_ne, rdI]) (by simp [upI_ne, rdI]) (by simp [upI_ne, rdI]) (by simp [upI_ne, rdI]) (by simp [upI_ne, rdI]), InvM_cong h6 (by simp [upI_ne, rdI]) (by simp [upI_ne, rdI]) (by simp [upI_ne, rdI]) (by simp [upI_ne, rdI]), fun l hl => ⟨InvQ_cong (h7 l hl).1 (by simp [upI_ne, rdI]) (by simp [upI_ne, rdI]) (by simp [upI_ne, rdI]) (fun j hj => by simp [upI_ne, rdI]) (fun j hj => by simp [upI_ne, rdI]), InvB_cong (h7 l hl).2.1 (by simp [upI_ne, rdI]) (by simp [upI_ne, rdI]) (by simp [upI_ne, rdI]) (by simp [upI_ne, rdI]) (by simp [upI_ne, rdI]) (by simp [upI_ne, rdI]), InvS_cong (h7 l hl).2.2 (by simp [upI_ne, rdI])⟩, (by simpa [upI_ne, rdI] using h8)⟩
set_option maxHeartbeats 1000000 in
theorem CX_ba {n w nf fr : Nat} {S I J : MI} {T L M : ML} {i : Nat} (v : Int32) (h : CX n S T w nf fr J M I L)  : CX n (upI S 210 i v) (T) w nf fr J M (upI I (lid i 0) 3 v) (L) := by
  obtain ⟨h1, h2, h3, h4, h5, h6⟩ := id h.1
  have hV := h.2.1.2.2.2.2.2.2.1
  refine CX_of h ⟨?_, ?_, ?_, ?_, ?_, fun l hl => ⟨?_, ?_, ?_⟩⟩ (Inv_ba v h.2.1) (by simp [upI_ne, upL_ne, rdI, rdL, lid_eq, lid_ne, ne_lid]) (fun i9 h79 h89 => ?_)
  · simpa [CRt, upI_ne, upL_ne, rdI, rdL, lid_eq, lid_ne, ne_lid] using h1
  · simpa [CRk, upI_ne, upL_ne, rdI, rdL, lid_eq, lid_ne, ne_lid] using h2
  · simpa [CRp, upI_ne, upL_ne, rdI, rdL, lid_eq, lid_ne, ne_lid] using h3
  · simpa [CRc, upI_ne, upL_ne, rdI, rdL, lid_eq, lid_ne, ne_lid] using h4
  · simpa [CRs, upI_ne, upL_ne, rdI, rdL, lid_eq, lid_ne, ne_lid] using h5
  · exact CRq_cong2 (h6 l hl).1 (by simp [upI_ne, upL_ne, rdI, rdL, lid_eq, lid_ne, ne_lid]) (fun j hj => by simp [upI_ne, upL_ne, rdI, rdL, lid_eq, lid_ne, ne_lid]) (fun j hj => by simp [upI_ne, upL_ne, rdI, rdL, lid_eq, lid_ne, ne_lid]) (fun j hj => by simp [upI_ne, upL_ne, rdI, rdL, lid_eq, lid_ne, ne_lid]) (by simp [upI_ne, upL_ne, rdI, rdL, lid_eq, lid_ne, ne_lid]) (by simp [upI_ne, upL_ne, rdI, rdL, lid_eq, lid_ne, ne_lid]) (by simp [upI_ne, upL_ne, rdI, rdL, lid_eq, lid_ne, ne_lid]) (by simp [upI_ne, upL_ne, rdI, rdL, lid_eq, lid_ne, ne_lid])
  · exact CRm_cong (h6 l hl).2.1 (by simp [upI_ne, upL_ne, rdI, rdL, lid_eq, lid_ne, ne_lid]) (by simp [upI_ne, upL_ne, rdI, rdL, lid_eq, lid_ne, ne_lid]) (by simp [upI_ne, upL_ne, rdI, rdL, lid_eq, lid_ne, ne_lid]) (by simp [upI_ne, upL_ne, rdI, rdL, lid_eq, lid_ne, ne_lid]) (by simp [upI_ne, upL_ne, rdI, rdL, lid_eq, lid_ne, ne_lid]) (by simp [upI_ne, upL_ne, rdI, rdL, lid_eq, lid_ne, ne_lid]) (by simp [upI_ne, upL_ne, rdI, rdL, lid_eq, lid_ne, ne_lid]) (by simp [upI_ne, upL_ne, rdI, rdL, lid_eq, lid_ne, ne_lid])
  · have hl0 := (h6 l hl).2.2
    unfold CRl at hl0 ⊢
    by_cases e : l = i
    · subst e
      exact ⟨by simpa [upI_ne, upL_ne, rdI, rdL, lid_eq, lid_ne, ne_lid] using hl0.1, by simp [upI_ne, upL_ne, rdI, rdL, lid_eq, lid_ne, ne_lid], by simpa [upI_ne, upL_ne, rdI, rdL, lid_eq, lid_ne, ne_lid] using hl0.2.2.1, by simpa [upI_ne, upL_ne, rdI, rdL, lid_eq, lid_ne, ne_lid] using hl0.2.2.2.1, by simpa [upI_ne, upL_ne, rdI, rdL, lid_eq, lid_ne, ne_lid] using hl0.2.2.2.2⟩
    · simpa [upI_ne, upL_ne, rdI, rdL, lid_eq, lid_ne, ne_lid, e] using hl0
  · simp [upI_ne, upL_ne, rdI, rdL, lid_eq, lid_ne, ne_lid, ne_lid (show i9 < 1000 by omega), show i9 ≠ 1 by omega, show i9 ≠ 2 by omega, show i9 ≠ 3 by omega, show i9 ≠ 4 by omega, show i9 ≠ 5 by omega, show i9 ≠ 6 by omega, show i9 ≠ 330 by omega, show i9 ≠ 340 by omega, show i9 ≠ 341 by omega, show i9 ≠ 342 by omega, show i9 ≠ 343 by omega, show i9 ≠ 350 by omega, show i9 ≠ 351 by omega, show i9 ≠ 352 by omega, show i9 ≠ 353 by omega, show i9 ≠ 354 by omega, show i9 ≠ 355 by omega, show i9 ≠ 360 by omega, show i9 ≠ 361 by omega, show i9 ≠ 362 by omega, show i9 ≠ 363 by omega, show i9 ≠ 364 by omega]
def Cqt (I : MI) (i : Nat) (q t : Int32) : MI := upI (upI I (lid i 0) 7 q) (lid i 0) 8 t
def CqtL (L : ML) (i : Nat) (c : Int64) : ML := upL (upL L (lid i 0) 9 c) (lid i 0) 10 c
def Tqt (T : ML) (i : Nat) (q t c : Int64) : ML := upL (upL (upL (upL T 218 i q) 219 i t) 220 i c) 221 i c
set_option maxHeartbeats 1000000 in
theorem CX_qt {n w nf fr : Nat} {S I J : MI} {T L M : ML} {i : Nat} (q t : Int32) (c : Int64) (h : CX n S T w nf fr J M I L) (hs : S 208 i < 3) : CX n (S) (Tqt T i q.toInt64 t.toInt64 c) w nf fr J M (Cqt I i q t) (CqtL L i c) := by
  obtain ⟨h1, h2, h3, h4, h5, h6⟩ := id h.1
  have hV := h.2.1.2.2.2.2.2.2.1
  refine CX_of h ⟨?_, ?_, ?_, ?_, ?_, fun l hl => ⟨?_, ?_, ?_⟩⟩ (h.2.1) (by simp [Cqt, CqtL, Tqt, upI_ne, upL_ne, rdI, rdL, lid_eq, lid_ne, ne_lid]) (fun i9 h79 h89 => ?_)
  · simpa [CRt, Cqt, CqtL, Tqt, upI_ne, upL_ne, rdI, rdL, lid_eq, lid_ne, ne_lid] using h1
  · simpa [CRk, Cqt, CqtL, Tqt, upI_ne, upL_ne, rdI, rdL, lid_eq, lid_ne, ne_lid] using h2
  · simpa [CRp, Cqt, CqtL, Tqt, upI_ne, upL_ne, rdI, rdL, lid_eq, lid_ne, ne_lid] using h3
  · simpa [CRc, Cqt, CqtL, Tqt, upI_ne, upL_ne, rdI, rdL, lid_eq, lid_ne, ne_lid] using h4
  · simpa [CRs, Cqt, CqtL, Tqt, upI_ne, upL_ne, rdI, rdL, lid_eq, lid_ne, ne_lid] using h5
  · exact CRq_cong2 (h6 l hl).1 (by simp [Cqt, CqtL, Tqt, upI_ne, upL_ne, rdI, rdL, lid_eq, lid_ne, ne_lid]) (fun j hj => by simp [Cqt, CqtL, Tqt, upI_ne, upL_ne, rdI, rdL, lid_eq, lid_ne, ne_lid]) (fun j hj => by simp [Cqt, CqtL, Tqt, upI_ne, upL_ne, rdI, rdL, lid_eq, lid_ne, ne_lid]) (fun j hj => by simp [Cqt, CqtL, Tqt, upI_ne, upL_ne, rdI, rdL, lid_eq, lid_ne, ne_lid]) (by simp [Cqt, CqtL, Tqt, upI_ne, upL_ne, rdI, rdL, lid_eq, lid_ne, ne_lid]) (by simp [Cqt, CqtL, Tqt, upI_ne, upL_ne, rdI, rdL, lid_eq, lid_ne, ne_lid]) (by simp [Cqt, CqtL, Tqt, upI_ne, upL_ne, rdI, rdL, lid_eq, lid_ne, ne_lid]) (by simp [Cqt, CqtL, Tqt, upI_ne, upL_ne, rdI, rdL, lid_eq, lid_ne, ne_lid])
  · exact CRm_cong (h6 l hl).2.1 (by simp [Cqt, CqtL, Tqt, upI_ne, upL_ne, rdI, rdL, lid_eq, lid_ne, ne_lid]) (by simp [Cqt, CqtL, Tqt, upI_ne, upL_ne, rdI, rdL, lid_eq, lid_ne, ne_lid]) (by simp [Cqt, CqtL, Tqt, upI_ne, upL_ne, rdI, rdL, lid_eq, lid_ne, ne_lid]) (by simp [Cqt, CqtL, Tqt, upI_ne, upL_ne, rdI, rdL, lid_eq, lid_ne, ne_lid]) (by simp [Cqt, CqtL, Tqt, upI_ne, upL_ne, rdI, rdL, lid_eq, lid_ne, ne_lid]) (by simp [Cqt, CqtL, Tqt, upI_ne, upL_ne, rdI, rdL, lid_eq, lid_ne, ne_lid]) (by simp [Cqt, CqtL, Tqt, upI_ne, upL_ne, rdI, rdL, lid_eq, lid_ne, ne_lid]) (by simp [Cqt, CqtL, Tqt, upI_ne, upL_ne, rdI, rdL, lid_eq, lid_ne, ne_lid])
  · have hl0 := (h6 l hl).2.2
    unfold CRl at hl0 ⊢
    by_cases e : l = i
    · subst e
      exact ⟨by simpa [Cqt, CqtL, Tqt, upI_ne, upL_ne, rdI, rdL, lid_eq, lid_ne, ne_lid] using hl0.1, by simpa [Cqt, CqtL, Tqt, upI_ne, upL_ne, rdI, rdL, lid_eq, lid_ne, ne_lid] using hl0.2.1, by simpa [Cqt, CqtL, Tqt, upI_ne, upL_ne, rdI, rdL, lid_eq, lid_ne, ne_lid] using hl0.2.2.1, by simpa [Cqt, CqtL, Tqt, upI_ne, upL_ne, rdI, rdL, lid_eq, lid_ne, ne_lid] using hl0.2.2.2.1, by simp [Cqt, CqtL, Tqt, upI_ne, upL_ne, rdI, rdL, lid_eq, lid_ne, ne_lid]⟩
    · simpa [Cqt, CqtL, Tqt, upI_ne, upL_ne, rdI, rdL, lid_eq, lid_ne, ne_lid, e] using hl0
  · simp [Cqt, CqtL, Tqt, upI_ne, upL_ne, rdI, rdL, lid_eq, lid_ne, ne_lid, ne_lid (show i9 < 1000 by omega), show i9 ≠ 1 by omega, show i9 ≠ 2 by omega, show i9 ≠ 3 by omega, show i9 ≠ 4 by omega, show i9 ≠ 5 by omega, show i9 ≠ 6 by omega, show i9 ≠ 330 by omega, show i9 ≠ 340 by omega, show i9 ≠ 341 by omega, show i9 ≠ 342 by omega, show i9 ≠ 343 by omega, show i9 ≠ 350 by omega, show i9 ≠ 351 by omega, show i9 ≠ 352 by omega, show i9 ≠ 353 by omega, show i9 ≠ 354 by omega, show i9 ≠ 355 by omega, show i9 ≠ 360 by omega, show i9 ≠ 361 by omega, show i9 ≠ 362 by omega, show i9 ≠ 363 by omega, show i9 ≠ 364 by omega]
set_option maxHeartbeats 1000000 in
theorem Inv_blk {n : Nat} {S : MI} {i t o : Nat} {a : Int32} (h : Inv n S) (ht : t < N (S 30 3)) (ho : o ≤ 8) (ha : nbt a (N (S 30 27))) : Inv n (Fblk S i t o a) := by
  obtain ⟨h1, h2, h3, h4, h5, h6, h7, h8⟩ := h
  refine ⟨h1, (by simpa [Fblk, upI_ne, rdI] using h2), InvT_cong h3 (by simp [Fblk, upI_ne, rdI]) (by simp [Fblk, upI_ne, rdI]), InvP_cong h4 (by simp [Fblk, upI_ne, rdI]) (by simp [Fblk, upI_ne, rdI]) (by simp [Fblk, upI_ne, rdI]) (by simp [Fblk, upI_ne, rdI]) (by simp [Fblk, upI_ne, rdI]), InvC_cong h5 (by simp [Fblk, upI_ne, rdI]) (by simp [Fblk, upI_ne, rdI]) (by simp [Fblk, upI_ne, rdI]) (by simp [Fblk, upI_ne, rdI]) (by simp [Fblk, upI_ne, rdI]) (by simp [Fblk, upI_ne, rdI]), InvM_cong h6 (by simp [Fblk, upI_ne, rdI]) (by simp [Fblk, upI_ne, rdI]) (by simp [Fblk, upI_ne, rdI]) (by simp [Fblk, upI_ne, rdI]), fun l hl => ⟨InvQ_cong (h7 l hl).1 (by simp [Fblk, upI_ne, rdI]) (by simp [Fblk, upI_ne, rdI]) (by simp [Fblk, upI_ne, rdI]) (fun j hj => by simp [Fblk, upI_ne, rdI]) (fun j hj => by simp [Fblk, upI_ne, rdI]), ?_, InvS_cong (h7 l hl).2.2 (by simp [Fblk, upI_ne, rdI])⟩, (by simpa [Fblk, upI_ne, rdI] using h8)⟩
  · unfold InvB
    by_cases e : l = i
    · subst e
      have h3b := h3.1.2
      refine ⟨Or.inr (by simp [Fblk, rdI]), fun _ => ⟨?_, ?_, ?_⟩⟩
      · have : N (nI t) = t := N_nI (by omega)
        simp only [nbt, Fblk, rdI]
        simp [this, ht]
      · have : N (nI o) = o := N_nI (by omega)
        simp only [nb, Fblk, rdI]
        simp [this, ho]
      · simpa [Fblk, rdI] using ha
    · have := (h7 l hl).2.1
      unfold InvB at this
      simpa [Fblk, rdI, e] using this
def Cblk (I : MI) (i t o : Nat) (a : Int32) : MI := upI (upI (upI I (lid i 0) 4 a) (lid i 0) 5 (nI t)) (lid i 0) 6 (nI o)
set_option maxHeartbeats 1000000 in
theorem CX_blk {n w nf fr : Nat} {S I J : MI} {T L M : ML} {i t o : Nat} {a : Int32} (h : CX n S T w nf fr J M I L) (ht : t < N (S 30 3)) (ho : o ≤ 8) (ha : nbt a (N (S 30 27))) : CX n (Fblk S i t o a) (T) w nf fr J M (Cblk I i t o a) (L) := by
  obtain ⟨h1, h2, h3, h4, h5, h6⟩ := id h.1
  have hV := h.2.1.2.2.2.2.2.2.1
  refine CX_of h ⟨?_, ?_, ?_, ?_, ?_, fun l hl => ⟨?_, ?_, ?_⟩⟩ (Inv_blk h.2.1 ht ho ha) (by simp [Fblk, Cblk, upI_ne, upL_ne, rdI, rdL, lid_eq, lid_ne, ne_lid]) (fun i9 h79 h89 => ?_)
  · simpa [CRt, Fblk, Cblk, upI_ne, upL_ne, rdI, rdL, lid_eq, lid_ne, ne_lid] using h1
  · simpa [CRk, Fblk, Cblk, upI_ne, upL_ne, rdI, rdL, lid_eq, lid_ne, ne_lid] using h2
  · simpa [CRp, Fblk, Cblk, upI_ne, upL_ne, rdI, rdL, lid_eq, lid_ne, ne_lid] using h3
  · simpa [CRc, Fblk, Cblk, upI_ne, upL_ne, rdI, rdL, lid_eq, lid_ne, ne_lid] using h4
  · simpa [CRs, Fblk, Cblk, upI_ne, upL_ne, rdI, rdL, lid_eq, lid_ne, ne_lid] using h5
  · exact CRq_cong2 (h6 l hl).1 (by simp [Fblk, Cblk, upI_ne, upL_ne, rdI, rdL, lid_eq, lid_ne, ne_lid]) (fun j hj => by simp [Fblk, Cblk, upI_ne, upL_ne, rdI, rdL, lid_eq, lid_ne, ne_lid]) (fun j hj => by simp [Fblk, Cblk, upI_ne, upL_ne, rdI, rdL, lid_eq, lid_ne, ne_lid]) (fun j hj => by simp [Fblk, Cblk, upI_ne, upL_ne, rdI, rdL, lid_eq, lid_ne, ne_lid]) (by simp [Fblk, Cblk, upI_ne, upL_ne, rdI, rdL, lid_eq, lid_ne, ne_lid]) (by simp [Fblk, Cblk, upI_ne, upL_ne, rdI, rdL, lid_eq, lid_ne, ne_lid]) (by simp [Fblk, Cblk, upI_ne, upL_ne, rdI, rdL, lid_eq, lid_ne, ne_lid]) (by simp [Fblk, Cblk, upI_ne, upL_ne, rdI, rdL, lid_eq, lid_ne, ne_lid])
  · exact CRm_cong (h6 l hl).2.1 (by simp [Fblk, Cblk, upI_ne, upL_ne, rdI, rdL, lid_eq, lid_ne, ne_lid]) (by simp [Fblk, Cblk, upI_ne, upL_ne, rdI, rdL, lid_eq, lid_ne, ne_lid]) (by simp [Fblk, Cblk, upI_ne, upL_ne, rdI, rdL, lid_eq, lid_ne, ne_lid]) (by simp [Fblk, Cblk, upI_ne, upL_ne, rdI, rdL, lid_eq, lid_ne, ne_lid]) (by simp [Fblk, Cblk, upI_ne, upL_ne, rdI, rdL, lid_eq, lid_ne, ne_lid]) (by simp [Fblk, Cblk, upI_ne, upL_ne, rdI, rdL, lid_eq, lid_ne, ne_lid]) (by simp [Fblk, Cblk, upI_ne, upL_ne, rdI, rdL, lid_eq, lid_ne, ne_lid]) (by simp [Fblk, Cblk, upI_ne, upL_ne, rdI, rdL, lid_eq, lid_ne, ne_lid])
  · have hl0 := (h6 l hl).2.2
    unfold CRl at hl0 ⊢
    by_cases e : l = i
    · subst e
      exact ⟨by simpa [Fblk, Cblk, upI_ne, upL_ne, rdI, rdL, lid_eq, lid_ne, ne_lid] using hl0.1, by simpa [Fblk, Cblk, upI_ne, upL_ne, rdI, rdL, lid_eq, lid_ne, ne_lid] using hl0.2.1, by simp [Fblk, Cblk, upI_ne, upL_ne, rdI, rdL, lid_eq, lid_ne, ne_lid], by simp [Fblk, Cblk, upI_ne, upL_ne, rdI, rdL, lid_eq, lid_ne, ne_lid], by simpa [Fblk, Cblk, upI_ne, upL_ne, rdI, rdL, lid_eq, lid_ne, ne_lid] using hl0.2.2.2.2⟩
    · simpa [Fblk, Cblk, upI_ne, upL_ne, rdI, rdL, lid_eq, lid_ne, ne_lid, e] using hl0
  · simp [Fblk, Cblk, upI_ne, upL_ne, rdI, rdL, lid_eq, lid_ne, ne_lid, ne_lid (show i9 < 1000 by omega), show i9 ≠ 1 by omega, show i9 ≠ 2 by omega, show i9 ≠ 3 by omega, show i9 ≠ 4 by omega, show i9 ≠ 5 by omega, show i9 ≠ 6 by omega, show i9 ≠ 330 by omega, show i9 ≠ 340 by omega, show i9 ≠ 341 by omega, show i9 ≠ 342 by omega, show i9 ≠ 343 by omega, show i9 ≠ 350 by omega, show i9 ≠ 351 by omega, show i9 ≠ 352 by omega, show i9 ≠ 353 by omega, show i9 ≠ 354 by omega, show i9 ≠ 355 by omega, show i9 ≠ 360 by omega, show i9 ≠ 361 by omega, show i9 ≠ 362 by omega, show i9 ≠ 363 by omega, show i9 ≠ 364 by omega]
set_option maxHeartbeats 1000000 in
theorem Inv_unb {n : Nat} {S : MI} {i : Nat} (h : Inv n S) : Inv n (upI S 214 i 0) := by
  obtain ⟨h1, h2, h3, h4, h5, h6, h7, h8⟩ := h
  refine ⟨h1, (by simpa [upI_ne, rdI] using h2), InvT_cong h3 (by simp [upI_ne, rdI]) (by simp [upI_ne, rdI]), InvP_cong h4 (by simp [upI_ne, rdI]) (by simp [upI_ne, rdI]) (by simp [upI_ne, rdI]) (by simp [upI_ne, rdI]) (by simp [upI_ne, rdI]), InvC_cong h5 (by simp [upI_ne, rdI]) (by simp [upI_ne, rdI]) (by simp [upI_ne, rdI]) (by simp [upI_ne, rdI]) (by simp [upI_ne, rdI]) (by simp [upI_ne, rdI]), InvM_cong h6 (by simp [upI_ne, rdI]) (by simp [upI_ne, rdI]) (by simp [upI_ne, rdI]) (by simp [upI_ne, rdI]), fun l hl => ⟨InvQ_cong (h7 l hl).1 (by simp [upI_ne, rdI]) (by simp [upI_ne, rdI]) (by simp [upI_ne, rdI]) (fun j hj => by simp [upI_ne, rdI]) (fun j hj => by simp [upI_ne, rdI]), ?_, InvS_cong (h7 l hl).2.2 (by simp [upI_ne, rdI])⟩, (by simpa [upI_ne, rdI] using h8)⟩
  · have h0 := (h7 l hl).2.1
    unfold InvB at h0 ⊢
    by_cases e : l = i
    · subst e
      exact ⟨Or.inl (by simp [rdI]), fun q => absurd q (by simp [rdI])⟩
    · simpa [rdI, e] using h0
set_option maxHeartbeats 1000000 in
theorem CX_unb {n w nf fr : Nat} {S I J : MI} {T L M : ML} {i : Nat} (h : CX n S T w nf fr J M I L)  : CX n (upI S 214 i 0) (T) w nf fr J M (upI I (lid i 0) 4 (-1)) (L) := by
  obtain ⟨h1, h2, h3, h4, h5, h6⟩ := id h.1
  have hV := h.2.1.2.2.2.2.2.2.1
  refine CX_of h ⟨?_, ?_, ?_, ?_, ?_, fun l hl => ⟨?_, ?_, ?_⟩⟩ (Inv_unb h.2.1) (by simp [upI_ne, upL_ne, rdI, rdL, lid_eq, lid_ne, ne_lid]) (fun i9 h79 h89 => ?_)
  · simpa [CRt, upI_ne, upL_ne, rdI, rdL, lid_eq, lid_ne, ne_lid] using h1
  · simpa [CRk, upI_ne, upL_ne, rdI, rdL, lid_eq, lid_ne, ne_lid] using h2
  · simpa [CRp, upI_ne, upL_ne, rdI, rdL, lid_eq, lid_ne, ne_lid] using h3
  · simpa [CRc, upI_ne, upL_ne, rdI, rdL, lid_eq, lid_ne, ne_lid] using h4
  · simpa [CRs, upI_ne, upL_ne, rdI, rdL, lid_eq, lid_ne, ne_lid] using h5
  · exact CRq_cong2 (h6 l hl).1 (by simp [upI_ne, upL_ne, rdI, rdL, lid_eq, lid_ne, ne_lid]) (fun j hj => by simp [upI_ne, upL_ne, rdI, rdL, lid_eq, lid_ne, ne_lid]) (fun j hj => by simp [upI_ne, upL_ne, rdI, rdL, lid_eq, lid_ne, ne_lid]) (fun j hj => by simp [upI_ne, upL_ne, rdI, rdL, lid_eq, lid_ne, ne_lid]) (by simp [upI_ne, upL_ne, rdI, rdL, lid_eq, lid_ne, ne_lid]) (by simp [upI_ne, upL_ne, rdI, rdL, lid_eq, lid_ne, ne_lid]) (by simp [upI_ne, upL_ne, rdI, rdL, lid_eq, lid_ne, ne_lid]) (by simp [upI_ne, upL_ne, rdI, rdL, lid_eq, lid_ne, ne_lid])
  · exact CRm_cong (h6 l hl).2.1 (by simp [upI_ne, upL_ne, rdI, rdL, lid_eq, lid_ne, ne_lid]) (by simp [upI_ne, upL_ne, rdI, rdL, lid_eq, lid_ne, ne_lid]) (by simp [upI_ne, upL_ne, rdI, rdL, lid_eq, lid_ne, ne_lid]) (by simp [upI_ne, upL_ne, rdI, rdL, lid_eq, lid_ne, ne_lid]) (by simp [upI_ne, upL_ne, rdI, rdL, lid_eq, lid_ne, ne_lid]) (by simp [upI_ne, upL_ne, rdI, rdL, lid_eq, lid_ne, ne_lid]) (by simp [upI_ne, upL_ne, rdI, rdL, lid_eq, lid_ne, ne_lid]) (by simp [upI_ne, upL_ne, rdI, rdL, lid_eq, lid_ne, ne_lid])
  · have hl0 := (h6 l hl).2.2
    unfold CRl at hl0 ⊢
    by_cases e : l = i
    · subst e
      exact ⟨by simpa [upI_ne, upL_ne, rdI, rdL, lid_eq, lid_ne, ne_lid] using hl0.1, by simpa [upI_ne, upL_ne, rdI, rdL, lid_eq, lid_ne, ne_lid] using hl0.2.1, by simp [upI_ne, upL_ne, rdI, rdL, lid_eq, lid_ne, ne_lid], by simp [upI_ne, upL_ne, rdI, rdL, lid_eq, lid_ne, ne_lid], by simpa [upI_ne, upL_ne, rdI, rdL, lid_eq, lid_ne, ne_lid] using hl0.2.2.2.2⟩
    · simpa [upI_ne, upL_ne, rdI, rdL, lid_eq, lid_ne, ne_lid, e] using hl0
  · simp [upI_ne, upL_ne, rdI, rdL, lid_eq, lid_ne, ne_lid, ne_lid (show i9 < 1000 by omega), show i9 ≠ 1 by omega, show i9 ≠ 2 by omega, show i9 ≠ 3 by omega, show i9 ≠ 4 by omega, show i9 ≠ 5 by omega, show i9 ≠ 6 by omega, show i9 ≠ 330 by omega, show i9 ≠ 340 by omega, show i9 ≠ 341 by omega, show i9 ≠ 342 by omega, show i9 ≠ 343 by omega, show i9 ≠ 350 by omega, show i9 ≠ 351 by omega, show i9 ≠ 352 by omega, show i9 ≠ 353 by omega, show i9 ≠ 354 by omega, show i9 ≠ 355 by omega, show i9 ≠ 360 by omega, show i9 ≠ 361 by omega, show i9 ≠ 362 by omega, show i9 ≠ 363 by omega, show i9 ≠ 364 by omega]
def Tlast (S : MI) (T : ML) (i : Nat) : ML := if S 208 i = 3 then upL T 221 i (T 30 2) else T
set_option maxHeartbeats 1000000 in
theorem CX_last {n w nf fr : Nat} {S I J : MI} {T L M : ML} {i : Nat} (h : CX n S T w nf fr J M I L) (h59 : S 208 i ≤ 3) : CX n (S) (Tlast S T i) w nf fr J M (I) (upL L (lid i 0) 10 (L 2 2)) := by
  obtain ⟨h1, h2, h3, h4, h5, h6⟩ := id h.1
  have hV := h.2.1.2.2.2.2.2.2.1
  refine CX_of h ⟨?_, ?_, ?_, ?_, ?_, fun l hl => ⟨?_, ?_, ?_⟩⟩ (h.2.1) (by simp [Tlast, upI_ne, upL_ne, rdI, rdL, lid_eq, lid_ne, ne_lid]) (fun i9 h79 h89 => ?_)
  · simpa [CRt, Tlast, upI_ne, upL_ne, rdI, rdL, lid_eq, lid_ne, ne_lid] using h1
  · simpa [CRk, Tlast, upI_ne, upL_ne, rdI, rdL, lid_eq, lid_ne, ne_lid] using h2
  · simpa [CRp, Tlast, upI_ne, upL_ne, rdI, rdL, lid_eq, lid_ne, ne_lid] using h3
  · simpa [CRc, Tlast, upI_ne, upL_ne, rdI, rdL, lid_eq, lid_ne, ne_lid] using h4
  · obtain ⟨a1, a2, a3⟩ := h5
    unfold Tlast
    exact ⟨by split <;> simpa [Tlast, upI_ne, upL_ne, rdI, rdL, lid_eq, lid_ne, ne_lid] using a1, a2, a3⟩
  · exact CRq_cong2 (h6 l hl).1 (by simp [Tlast, upI_ne, upL_ne, rdI, rdL, lid_eq, lid_ne, ne_lid]) (fun j hj => by simp [Tlast, upI_ne, upL_ne, rdI, rdL, lid_eq, lid_ne, ne_lid]) (fun j hj => by simp [Tlast, upI_ne, upL_ne, rdI, rdL, lid_eq, lid_ne, ne_lid]) (fun j hj => by simp [Tlast, upI_ne, upL_ne, rdI, rdL, lid_eq, lid_ne, ne_lid]) (by simp [Tlast, upI_ne, upL_ne, rdI, rdL, lid_eq, lid_ne, ne_lid]) (by simp [Tlast, upI_ne, upL_ne, rdI, rdL, lid_eq, lid_ne, ne_lid]) (by simp [Tlast, upI_ne, upL_ne, rdI, rdL, lid_eq, lid_ne, ne_lid]) (by simp [Tlast, upI_ne, upL_ne, rdI, rdL, lid_eq, lid_ne, ne_lid])
  · refine CRm_cong (h6 l hl).2.1 rfl rfl rfl ?_ rfl rfl rfl (by simp [Tlast, upI_ne, upL_ne, rdI, rdL, lid_eq, lid_ne, ne_lid])
    unfold Tlast
    split <;> simp [Tlast, upI_ne, upL_ne, rdI, rdL, lid_eq, lid_ne, ne_lid]
  · have hl0 := (h6 l hl).2.2
    have hck := h5
    unfold CRl at hl0 ⊢
    by_cases e : l = i
    · subst e
      refine ⟨hl0.1, hl0.2.1, hl0.2.2.1, hl0.2.2.2.1, fun h3 => ?_⟩
      have h39 : S 208 l = 3 := Int32.le_antisymm h59 h3
      obtain ⟨b1, b2, b3, b4⟩ := hl0.2.2.2.2 h3
      unfold Tlast
      rw [if_pos h39]
      exact ⟨by simpa [Tlast, upI_ne, upL_ne, rdI, rdL, lid_eq, lid_ne, ne_lid] using b1, by simpa [Tlast, upI_ne, upL_ne, rdI, rdL, lid_eq, lid_ne, ne_lid] using b2, by simpa [Tlast, upI_ne, upL_ne, rdI, rdL, lid_eq, lid_ne, ne_lid] using b3, by simp [Tlast, upI_ne, upL_ne, rdI, rdL, lid_eq, lid_ne, ne_lid, hck.1]⟩
    · refine ⟨hl0.1, hl0.2.1, hl0.2.2.1, hl0.2.2.2.1, fun h3 => ?_⟩
      obtain ⟨b1, b2, b3, b4⟩ := hl0.2.2.2.2 h3
      unfold Tlast
      split <;> simp [Tlast, upI_ne, upL_ne, rdI, rdL, lid_eq, lid_ne, ne_lid, e, b1, b2, b3, b4]
  · simp [Tlast, upI_ne, upL_ne, rdI, rdL, lid_eq, lid_ne, ne_lid, ne_lid (show i9 < 1000 by omega), show i9 ≠ 1 by omega, show i9 ≠ 2 by omega, show i9 ≠ 3 by omega, show i9 ≠ 4 by omega, show i9 ≠ 5 by omega, show i9 ≠ 6 by omega, show i9 ≠ 330 by omega, show i9 ≠ 340 by omega, show i9 ≠ 341 by omega, show i9 ≠ 342 by omega, show i9 ≠ 343 by omega, show i9 ≠ 350 by omega, show i9 ≠ 351 by omega, show i9 ≠ 352 by omega, show i9 ≠ 353 by omega, show i9 ≠ 354 by omega, show i9 ≠ 355 by omega, show i9 ≠ 360 by omega, show i9 ≠ 361 by omega, show i9 ≠ 362 by omega, show i9 ≠ 363 by omega, show i9 ≠ 364 by omega]
