/-! ===== promises ===== -/
set_option maxHeartbeats 1000000 in
theorem Inv_fin {n : Nat} {S : MI} {p : Nat} (how v : Int32) (h : Inv n S) : Inv n (Ffin S p how v) := by
  obtain ⟨h1, h2, h3, h4, h5, h6, h7, h8⟩ := h
  refine ⟨h1, (by simpa [Ffin, upI_ne, rdI] using h2), InvT_cong h3 (by simp [Ffin, upI_ne, rdI]) (by simp [Ffin, upI_ne, rdI]), ?_, InvC_cong h5 (by simp [Ffin, upI_ne, rdI]) (by simp [Ffin, upI_ne, rdI]) (by simp [Ffin, upI_ne, rdI]) (by simp [Ffin, upI_ne, rdI]) (by simp [Ffin, upI_ne, rdI]) (by simp [Ffin, upI_ne, rdI]), InvM_cong h6 (by simp [Ffin, upI_ne, rdI]) (by simp [Ffin, upI_ne, rdI]) (by simp [Ffin, upI_ne, rdI]) (by simp [Ffin, upI_ne, rdI]), fun l hl => ⟨InvQ_cong (h7 l hl).1 (by simp [Ffin, upI_ne, rdI]) (by simp [Ffin, upI_ne, rdI]) (by simp [Ffin, upI_ne, rdI]) (fun j hj => by simp [Ffin, upI_ne, rdI]) (fun j hj => by simp [Ffin, upI_ne, rdI]), InvB_cong (h7 l hl).2.1 (by simp [Ffin, upI_ne, rdI]) (by simp [Ffin, upI_ne, rdI]) (by simp [Ffin, upI_ne, rdI]) (by simp [Ffin, upI_ne, rdI]) (by simp [Ffin, upI_ne, rdI]) (by simp [Ffin, upI_ne, rdI]), InvS_cong (h7 l hl).2.2 (by simp [Ffin, upI_ne, rdI])⟩, (by simpa [Ffin, upI_ne, rdI] using h8)⟩
  · refine ⟨by simpa [Ffin, rdI] using h4.1, fun q hq => ?_⟩
    obtain ⟨a1, a2, a3⟩ := h4.2 q (by simpa [Ffin, rdI] using hq)
    by_cases e : q = p
    · subst e
      refine ⟨by simpa [Ffin, rdI] using a1, ?_, fun j hj => ?_⟩
      · simp only [nb, Ffin, rdI]
        simp [N]
        rfl
      · have : N (Ffin S q how v 232 q) = 0 := by simp [Ffin, rdI, N]
        omega
    · exact ⟨by simpa [Ffin, rdI] using a1, by simpa [Ffin, rdI, e] using a2, fun j hj => by simpa [Ffin, rdI] using a3 j (by simpa [Ffin, rdI, e] using hj)⟩
set_option maxHeartbeats 1000000 in
theorem CX_fin {n w nf fr : Nat} {S I J : MI} {T L M : ML} {p : Nat} (how v : Int32) (h : CX n S T w nf fr J M I L) (hh : how ≠ 0) : CX n (Ffin S p how v) (T) w nf fr J M (upI (upI (upI I 351 p how) 352 p (if how = 3 then 0 else v)) 354 p 0) (L) := by
  obtain ⟨h1, h2, h3, h4, h5, h6⟩ := id h.1
  have hV := h.2.1.2.2.2.2.2.2.1
  refine CX_of h ⟨?_, ?_, ?_, ?_, ?_, fun l hl => ⟨?_, ?_, ?_⟩⟩ (Inv_fin how v h.2.1) (by simp [Ffin, upI_ne, upL_ne, rdI, rdL, lid_eq, lid_ne, ne_lid]) (fun i9 h79 h89 => ?_)
  · simpa [CRt, Ffin, upI_ne, upL_ne, rdI, rdL, lid_eq, lid_ne, ne_lid] using h1
  · simpa [CRk, Ffin, upI_ne, upL_ne, rdI, rdL, lid_eq, lid_ne, ne_lid] using h2
  · obtain ⟨a1, a2, a3, a4, a5, a6, a7⟩ := h3
    refine ⟨by simpa [Ffin, upI_ne, upL_ne, rdI, rdL, lid_eq, lid_ne, ne_lid] using a1, by simpa [Ffin, upI_ne, upL_ne, rdI, rdL, lid_eq, lid_ne, ne_lid] using a2, ?_, ?_, fun q hq => ?_, ?_, by simpa [Ffin, upI_ne, upL_ne, rdI, rdL, lid_eq, lid_ne, ne_lid] using a7⟩
    · funext q
      simp [Ffin, upI_ne, upL_ne, rdI, rdL, lid_eq, lid_ne, ne_lid, a3]
    · funext q
      simp [Ffin, upI_ne, upL_ne, rdI, rdL, lid_eq, lid_ne, ne_lid, a4]
    · by_cases e : q = p
      · subst e
        exact absurd (by simpa [Ffin, upI_ne, upL_ne, rdI, rdL, lid_eq, lid_ne, ne_lid] using hq) hh
      · simpa [Ffin, upI_ne, upL_ne, rdI, rdL, lid_eq, lid_ne, ne_lid] using a5 q (by simpa [Ffin, upI_ne, upL_ne, rdI, rdL, lid_eq, lid_ne, ne_lid, e] using hq)
    · funext q
      simp [Ffin, upI_ne, upL_ne, rdI, rdL, lid_eq, lid_ne, ne_lid, a6]
  · simpa [CRc, Ffin, upI_ne, upL_ne, rdI, rdL, lid_eq, lid_ne, ne_lid] using h4
  · simpa [CRs, Ffin, upI_ne, upL_ne, rdI, rdL, lid_eq, lid_ne, ne_lid] using h5
  · exact CRq_cong2 (h6 l hl).1 (by simp [Ffin, upI_ne, upL_ne, rdI, rdL, lid_eq, lid_ne, ne_lid]) (fun j hj => by simp [Ffin, upI_ne, upL_ne, rdI, rdL, lid_eq, lid_ne, ne_lid]) (fun j hj => by simp [Ffin, upI_ne, upL_ne, rdI, rdL, lid_eq, lid_ne, ne_lid]) (fun j hj => by simp [Ffin, upI_ne, upL_ne, rdI, rdL, lid_eq, lid_ne, ne_lid]) (by simp [Ffin, upI_ne, upL_ne, rdI, rdL, lid_eq, lid_ne, ne_lid]) (by simp [Ffin, upI_ne, upL_ne, rdI, rdL, lid_eq, lid_ne, ne_lid]) (by simp [Ffin, upI_ne, upL_ne, rdI, rdL, lid_eq, lid_ne, ne_lid]) (by simp [Ffin, upI_ne, upL_ne, rdI, rdL, lid_eq, lid_ne, ne_lid])
  · exact CRm_cong (h6 l hl).2.1 (by simp [Ffin, upI_ne, upL_ne, rdI, rdL, lid_eq, lid_ne, ne_lid]) (by simp [Ffin, upI_ne, upL_ne, rdI, rdL, lid_eq, lid_ne, ne_lid]) (by simp [Ffin, upI_ne, upL_ne, rdI, rdL, lid_eq, lid_ne, ne_lid]) (by simp [Ffin, upI_ne, upL_ne, rdI, rdL, lid_eq, lid_ne, ne_lid]) (by simp [Ffin, upI_ne, upL_ne, rdI, rdL, lid_eq, lid_ne, ne_lid]) (by simp [Ffin, upI_ne, upL_ne, rdI, rdL, lid_eq, lid_ne, ne_lid]) (by simp [Ffin, upI_ne, upL_ne, rdI, rdL, lid_eq, lid_ne, ne_lid]) (by simp [Ffin, upI_ne, upL_ne, rdI, rdL, lid_eq, lid_ne, ne_lid])
  · exact CRl_cong (h6 l hl).2.2 (by simp [Ffin, upI_ne, upL_ne, rdI, rdL, lid_eq, lid_ne, ne_lid]) (by simp [Ffin, upI_ne, upL_ne, rdI, rdL, lid_eq, lid_ne, ne_lid]) (by simp [Ffin, upI_ne, upL_ne, rdI, rdL, lid_eq, lid_ne, ne_lid]) (by simp [Ffin, upI_ne, upL_ne, rdI, rdL, lid_eq, lid_ne, ne_lid]) (by simp [Ffin, upI_ne, upL_ne, rdI, rdL, lid_eq, lid_ne, ne_lid]) (by simp [Ffin, upI_ne, upL_ne, rdI, rdL, lid_eq, lid_ne, ne_lid]) (by simp [Ffin, upI_ne, upL_ne, rdI, rdL, lid_eq, lid_ne, ne_lid]) (by simp [Ffin, upI_ne, upL_ne, rdI, rdL, lid_eq, lid_ne, ne_lid]) (by simp [Ffin, upI_ne, upL_ne, rdI, rdL, lid_eq, lid_ne, ne_lid]) (by simp [Ffin, upI_ne, upL_ne, rdI, rdL, lid_eq, lid_ne, ne_lid]) (by simp [Ffin, upI_ne, upL_ne, rdI, rdL, lid_eq, lid_ne, ne_lid]) (by simp [Ffin, upI_ne, upL_ne, rdI, rdL, lid_eq, lid_ne, ne_lid])
  · simp [Ffin, upI_ne, upL_ne, rdI, rdL, lid_eq, lid_ne, ne_lid, ne_lid (show i9 < 1000 by omega), show i9 ≠ 1 by omega, show i9 ≠ 2 by omega, show i9 ≠ 3 by omega, show i9 ≠ 4 by omega, show i9 ≠ 5 by omega, show i9 ≠ 6 by omega, show i9 ≠ 330 by omega, show i9 ≠ 340 by omega, show i9 ≠ 341 by omega, show i9 ≠ 342 by omega, show i9 ≠ 343 by omega, show i9 ≠ 350 by omega, show i9 ≠ 351 by omega, show i9 ≠ 352 by omega, show i9 ≠ 353 by omega, show i9 ≠ 354 by omega, show i9 ≠ 355 by omega, show i9 ≠ 360 by omega, show i9 ≠ 361 by omega, show i9 ≠ 362 by omega, show i9 ≠ 363 by omega, show i9 ≠ 364 by omega]
set_option maxHeartbeats 1000000 in
theorem Inv_lis {n : Nat} {S : MI} {p t : Nat} (h : Inv n S) (hp : p < N (S 30 27)) (ht : t < N (S 30 3)) (hw : N (S 232 p) < 6) : Inv n (Flis S p t) := by
  obtain ⟨h1, h2, h3, h4, h5, h6, h7, h8⟩ := h
  refine ⟨h1, (by simpa [Flis, upI_ne, rdI] using h2), InvT_cong h3 (by simp [Flis, upI_ne, rdI]) (by simp [Flis, upI_ne, rdI]), ?_, InvC_cong h5 (by simp [Flis, upI_ne, rdI]) (by simp [Flis, upI_ne, rdI]) (by simp [Flis, upI_ne, rdI]) (by simp [Flis, upI_ne, rdI]) (by simp [Flis, upI_ne, rdI]) (by simp [Flis, upI_ne, rdI]), InvM_cong h6 (by simp [Flis, upI_ne, rdI]) (by simp [Flis, upI_ne, rdI]) (by simp [Flis, upI_ne, rdI]) (by simp [Flis, upI_ne, rdI]), fun l hl => ⟨InvQ_cong (h7 l hl).1 (by simp [Flis, upI_ne, rdI]) (by simp [Flis, upI_ne, rdI]) (by simp [Flis, upI_ne, rdI]) (fun j hj => by simp [Flis, upI_ne, rdI]) (fun j hj => by simp [Flis, upI_ne, rdI]), InvB_cong (h7 l hl).2.1 (by simp [Flis, upI_ne, rdI]) (by simp [Flis, upI_ne, rdI]) (by simp [Flis, upI_ne, rdI]) (by simp [Flis, upI_ne, rdI]) (by simp [Flis, upI_ne, rdI]) (by simp [Flis, upI_ne, rdI]), InvS_cong (h7 l hl).2.2 (by simp [Flis, upI_ne, rdI])⟩, (by simpa [Flis, upI_ne, rdI] using h8)⟩
  · refine ⟨by simpa [Flis, rdI] using h4.1, fun q hq => ?_⟩
    obtain ⟨a1, a2, a3⟩ := h4.2 q (by simpa [Flis, rdI] using hq)
    by_cases e : q = p
    · subst e
      have e9 : S 232 q + 1 = nI (N (S 232 q) + 1) := nI_add1 a2.1
      have e2 : Flis S q t 232 q = nI (N (S 232 q) + 1) := by simp [Flis, rdI, e9]
      have e3 : N (Flis S q t 232 q) = N (S 232 q) + 1 := by rw [e2]; exact N_nI (by omega)
      refine ⟨by simpa [Flis, rdI] using a1, nb_of e2 (by omega) (by decide), fun j hj => ?_⟩
      rw [e3] at hj
      by_cases ej : j = N (S 232 q)
      · subst ej
        have h3b := h3.1.2
        have : N (nI t) = t := N_nI (by omega)
        simp only [nbt, Flis, rdI]
        simp [this, ht]
      · have := a3 j (by omega)
        simpa [Flis, rdI, ej] using this
    · have hb := a2.2
      refine ⟨by simpa [Flis, rdI] using a1, by simpa [Flis, rdI, e] using a2, fun j hj => ?_⟩
      have hj2 : j < N (S 232 q) := by simpa [Flis, rdI, e] using hj
      have : ¬ 6 * q + j = 6 * p + N (S 232 p) := by omega
      simpa [Flis, rdI, this] using a3 j hj2
set_option maxHeartbeats 1000000 in
theorem CX_lis {n w nf fr : Nat} {S I J : MI} {T L M : ML} {p t : Nat} (h : CX n S T w nf fr J M I L) (hp : p < N (S 30 27)) (ht : t < N (S 30 3)) (hw : N (S 232 p) < 6) : CX n (Flis S p t) (T) w nf fr J M (Cwait I p (N (S 232 p)) (nI t)) (L) := by
  obtain ⟨h1, h2, h3, h4, h5, h6⟩ := id h.1
  have hV := h.2.1.2.2.2.2.2.2.1
  refine CX_of h ⟨?_, ?_, ?_, ?_, ?_, fun l hl => ⟨?_, ?_, ?_⟩⟩ (Inv_lis h.2.1 hp ht hw) (by simp [Flis, Cwait, upI_ne, upL_ne, rdI, rdL, lid_eq, lid_ne, ne_lid]) (fun i9 h79 h89 => ?_)
  · simpa [CRt, Flis, Cwait, upI_ne, upL_ne, rdI, rdL, lid_eq, lid_ne, ne_lid] using h1
  · simpa [CRk, Flis, Cwait, upI_ne, upL_ne, rdI, rdL, lid_eq, lid_ne, ne_lid] using h2
  · obtain ⟨a1, a2, a3, a4, a5, a6, a7⟩ := h3
    have e9 : S 232 p + 1 = nI (N (S 232 p) + 1) := nI_add1 (h.2.1.2.2.2.1.2 p hp).2.1.1
    refine ⟨by simpa [Flis, Cwait, upI_ne, upL_ne, rdI, rdL, lid_eq, lid_ne, ne_lid] using a1, by simpa [Flis, Cwait, upI_ne, upL_ne, rdI, rdL, lid_eq, lid_ne, ne_lid] using a2, by simpa [Flis, Cwait, upI_ne, upL_ne, rdI, rdL, lid_eq, lid_ne, ne_lid] using a3, by simpa [Flis, Cwait, upI_ne, upL_ne, rdI, rdL, lid_eq, lid_ne, ne_lid] using a4, fun q hq => by simpa [Flis, Cwait, upI_ne, upL_ne, rdI, rdL, lid_eq, lid_ne, ne_lid] using a5 q (by simpa [Flis, Cwait, upI_ne, upL_ne, rdI, rdL, lid_eq, lid_ne, ne_lid] using hq), ?_, ?_⟩
    · funext q
      simp [Flis, Cwait, upI_ne, upL_ne, rdI, rdL, lid_eq, lid_ne, ne_lid, a6, e9]
    · funext q
      simp [Flis, Cwait, upI_ne, upL_ne, rdI, rdL, lid_eq, lid_ne, ne_lid, a7]
  · simpa [CRc, Flis, Cwait, upI_ne, upL_ne, rdI, rdL, lid_eq, lid_ne, ne_lid] using h4
  · simpa [CRs, Flis, Cwait, upI_ne, upL_ne, rdI, rdL, lid_eq, lid_ne, ne_lid] using h5
  · exact CRq_cong2 (h6 l hl).1 (by simp [Flis, Cwait, upI_ne, upL_ne, rdI, rdL, lid_eq, lid_ne, ne_lid]) (fun j hj => by simp [Flis, Cwait, upI_ne, upL_ne, rdI, rdL, lid_eq, lid_ne, ne_lid]) (fun j hj => by simp [Flis, Cwait, upI_ne, upL_ne, rdI, rdL, lid_eq, lid_ne, ne_lid]) (fun j hj => by simp [Flis, Cwait, upI_ne, upL_ne, rdI, rdL, lid_eq, lid_ne, ne_lid]) (by simp [Flis, Cwait, upI_ne, upL_ne, rdI, rdL, lid_eq, lid_ne, ne_lid]) (by simp [Flis, Cwait, upI_ne, upL_ne, rdI, rdL, lid_eq, lid_ne, ne_lid]) (by simp [Flis, Cwait, upI_ne, upL_ne, rdI, rdL, lid_eq, lid_ne, ne_lid]) (by simp [Flis, Cwait, upI_ne, upL_ne, rdI, rdL, lid_eq, lid_ne, ne_lid])
  · exact CRm_cong (h6 l hl).2.1 (by simp [Flis, Cwait, upI_ne, upL_ne, rdI, rdL, lid_eq, lid_ne, ne_lid]) (by simp [Flis, Cwait, upI_ne, upL_ne, rdI, rdL, lid_eq, lid_ne, ne_lid]) (by simp [Flis, Cwait, upI_ne, upL_ne, rdI, rdL, lid_eq, lid_ne, ne_lid]) (by simp [Flis, Cwait, upI_ne, upL_ne, rdI, rdL, lid_eq, lid_ne, ne_lid]) (by simp [Flis, Cwait, upI_ne, upL_ne, rdI, rdL, lid_eq, lid_ne, ne_lid]) (by simp [Flis, Cwait, upI_ne, upL_ne, rdI, rdL, lid_eq, lid_ne, ne_lid]) (by simp [Flis, Cwait, upI_ne, upL_ne, rdI, rdL, lid_eq, lid_ne, ne_lid]) (by simp [Flis, Cwait, upI_ne, upL_ne, rdI, rdL, lid_eq, lid_ne, ne_lid])
  · exact CRl_cong (h6 l hl).2.2 (by simp [Flis, Cwait, upI_ne, upL_ne, rdI, rdL, lid_eq, lid_ne, ne_lid]) (by simp [Flis, Cwait, upI_ne, upL_ne, rdI, rdL, lid_eq, lid_ne, ne_lid]) (by simp [Flis, Cwait, upI_ne, upL_ne, rdI, rdL, lid_eq, lid_ne, ne_lid]) (by simp [Flis, Cwait, upI_ne, upL_ne, rdI, rdL, lid_eq, lid_ne, ne_lid]) (by simp [Flis, Cwait, upI_ne, upL_ne, rdI, rdL, lid_eq, lid_ne, ne_lid]) (by simp [Flis, Cwait, upI_ne, upL_ne, rdI, rdL, lid_eq, lid_ne, ne_lid]) (by simp [Flis, Cwait, upI_ne, upL_ne, rdI, rdL, lid_eq, lid_ne, ne_lid]) (by simp [Flis, Cwait, upI_ne, upL_ne, rdI, rdL, lid_eq, lid_ne, ne_lid]) (by simp [Flis, Cwait, upI_ne, upL_ne, rdI, rdL, lid_eq, lid_ne, ne_lid]) (by simp [Flis, Cwait, upI_ne, upL_ne, rdI, rdL, lid_eq, lid_ne, ne_lid]) (by simp [Flis, Cwait, upI_ne, upL_ne, rdI, rdL, lid_eq, lid_ne, ne_lid]) (by simp [Flis, Cwait, upI_ne, upL_ne, rdI, rdL, lid_eq, lid_ne, ne_lid])
  · simp [Flis, Cwait, upI_ne, upL_ne, rdI, rdL, lid_eq, lid_ne, ne_lid, ne_lid (show i9 < 1000 by omega), show i9 ≠ 1 by omega, show i9 ≠ 2 by omega, show i9 ≠ 3 by omega, show i9 ≠ 4 by omega, show i9 ≠ 5 by omega, show i9 ≠ 6 by omega, show i9 ≠ 330 by omega, show i9 ≠ 340 by omega, show i9 ≠ 341 by omega, show i9 ≠ 342 by omega, show i9 ≠ 343 by omega, show i9 ≠ 350 by omega, show i9 ≠ 351 by omega, show i9 ≠ 352 by omega, show i9 ≠ 353 by omega, show i9 ≠ 354 by omega, show i9 ≠ 355 by omega, show i9 ≠ 360 by omega, show i9 ≠ 361 by omega, show i9 ≠ 362 by omega, show i9 ≠ 363 by omega, show i9 ≠ 364 by omega]
set_option maxHeartbeats 1000000 in
theorem Inv_pin {n : Nat} {S : MI} {p : Nat} (h : Inv n S) : Inv n (upI S 231 p 1) := by
  obtain ⟨h1, h2, h3, h4, h5, h6, h7, h8⟩ := h
  refine ⟨h1, (by simpa [upI_ne, rdI] using h2), InvT_cong h3 (by simp [upI_ne, rdI]) (by simp [upI_ne, rdI]), InvP_cong h4 (by simp [upI_ne, rdI]) (by simp [upI_ne, rdI]) (by simp [upI_ne, rdI]) (by simp [upI_ne, rdI]) (by simp [upI_ne, rdI]), InvC_cong h5 (by simp [upI_ne, rdI]) (by simp [upI_ne, rdI]) (by simp [upI_ne, rdI]) (by simp [upI_ne, rdI]) (by simp [upI_ne, rdI]) (by simp [upI_ne, rdI]), InvM_cong h6 (by simp [upI_ne, rdI]) (by simp [upI_ne, rdI]) (by simp [upI_ne, rdI]) (by simp [upI_ne, rdI]), fun l hl => ⟨InvQ_cong (h7 l hl).1 (by simp [upI_ne, rdI]) (by simp [upI_ne, rdI]) (by simp [upI_ne, rdI]) (fun j hj => by simp [upI_ne, rdI]) (fun j hj => by simp [upI_ne, rdI]), InvB_cong (h7 l hl).2.1 (by simp [upI_ne, rdI]) (by simp [upI_ne, rdI]) (by simp [upI_ne, rdI]) (by simp [upI_ne, rdI]) (by simp [upI_ne, rdI]) (by simp [upI_ne, rdI]), InvS_cong (h7 l hl).2.2 (by simp [upI_ne, rdI])⟩, (by simpa [upI_ne, rdI] using h8)⟩
set_option maxHeartbeats 1000000 in
theorem CX_pin {n w nf fr : Nat} {S I J : MI} {T L M : ML} {p : Nat} (h : CX n S T w nf fr J M I L)  : CX n (upI S 231 p 1) (T) w nf fr J M (if I 351 p = 0 then upI I 353 p 1 else I) (L) := by
  obtain ⟨h1, h2, h3, h4, h5, h6⟩ := id h.1
  have hV := h.2.1.2.2.2.2.2.2.1
  refine CX_of h ⟨?_, ?_, ?_, ?_, ?_, fun l hl => ⟨?_, ?_, ?_⟩⟩ (Inv_pin h.2.1) (by split <;> simp [upI_ne]) (fun i9 h79 h89 => ?_)
  · split <;> simpa [CRt, upI_ne, upL_ne, rdI, rdL, lid_eq, lid_ne, ne_lid] using h1
  · split <;> simpa [CRk, upI_ne, upL_ne, rdI, rdL, lid_eq, lid_ne, ne_lid] using h2
  · obtain ⟨a1, a2, a3, a4, a5, a6, a7⟩ := h3
    have a3p : I 351 p = S 229 p := congrFun a3 p
    by_cases e : I 351 p = 0
    · rw [if_pos e]
      refine ⟨by simpa [upI_ne, upL_ne, rdI, rdL, lid_eq, lid_ne, ne_lid] using a1, by simpa [upI_ne, upL_ne, rdI, rdL, lid_eq, lid_ne, ne_lid] using a2, by simpa [upI_ne, upL_ne, rdI, rdL, lid_eq, lid_ne, ne_lid] using a3, by simpa [upI_ne, upL_ne, rdI, rdL, lid_eq, lid_ne, ne_lid] using a4, fun q hq => ?_, by simpa [upI_ne, upL_ne, rdI, rdL, lid_eq, lid_ne, ne_lid] using a6, by simpa [upI_ne, upL_ne, rdI, rdL, lid_eq, lid_ne, ne_lid] using a7⟩
      by_cases eq : q = p
      · subst eq
        simp [upI_ne, upL_ne, rdI, rdL, lid_eq, lid_ne, ne_lid]
      · simpa [upI_ne, upL_ne, rdI, rdL, lid_eq, lid_ne, ne_lid, eq] using a5 q (by simpa [upI_ne, upL_ne, rdI, rdL, lid_eq, lid_ne, ne_lid] using hq)
    · rw [if_neg e]
      refine ⟨by simpa [upI_ne, upL_ne, rdI, rdL, lid_eq, lid_ne, ne_lid] using a1, by simpa [upI_ne, upL_ne, rdI, rdL, lid_eq, lid_ne, ne_lid] using a2, by simpa [upI_ne, upL_ne, rdI, rdL, lid_eq, lid_ne, ne_lid] using a3, by simpa [upI_ne, upL_ne, rdI, rdL, lid_eq, lid_ne, ne_lid] using a4, fun q hq => ?_, by simpa [upI_ne, upL_ne, rdI, rdL, lid_eq, lid_ne, ne_lid] using a6, by simpa [upI_ne, upL_ne, rdI, rdL, lid_eq, lid_ne, ne_lid] using a7⟩
      have hq2 : S 229 q = 0 := by simpa [upI_ne, upL_ne, rdI, rdL, lid_eq, lid_ne, ne_lid] using hq
      have eq : ¬ q = p := fun e9 => by
        subst e9
        exact e (by rw [a3p]; exact hq2)
      simpa [upI_ne, upL_ne, rdI, rdL, lid_eq, lid_ne, ne_lid, eq] using a5 q hq2
  · split <;> simpa [CRc, upI_ne, upL_ne, rdI, rdL, lid_eq, lid_ne, ne_lid] using h4
  · split <;> simpa [CRs, upI_ne, upL_ne, rdI, rdL, lid_eq, lid_ne, ne_lid] using h5
  · split <;> exact CRq_cong2 (h6 l hl).1 (by simp [upI_ne, upL_ne, rdI, rdL, lid_eq, lid_ne, ne_lid]) (fun j hj => by simp [upI_ne, upL_ne, rdI, rdL, lid_eq, lid_ne, ne_lid]) (fun j hj => by simp [upI_ne, upL_ne, rdI, rdL, lid_eq, lid_ne, ne_lid]) (fun j hj => by simp [upI_ne, upL_ne, rdI, rdL, lid_eq, lid_ne, ne_lid]) (by simp [upI_ne, upL_ne, rdI, rdL, lid_eq, lid_ne, ne_lid]) (by simp [upI_ne, upL_ne, rdI, rdL, lid_eq, lid_ne, ne_lid]) (by simp [upI_ne, upL_ne, rdI, rdL, lid_eq, lid_ne, ne_lid]) (by simp [upI_ne, upL_ne, rdI, rdL, lid_eq, lid_ne, ne_lid])
  · split <;> exact CRm_cong (h6 l hl).2.1 (by simp [upI_ne, upL_ne, rdI, rdL, lid_eq, lid_ne, ne_lid]) (by simp [upI_ne, upL_ne, rdI, rdL, lid_eq, lid_ne, ne_lid]) (by simp [upI_ne, upL_ne, rdI, rdL, lid_eq, lid_ne, ne_lid]) rfl (by simp [upI_ne, upL_ne, rdI, rdL, lid_eq, lid_ne, ne_lid]) (by simp [upI_ne, upL_ne, rdI, rdL, lid_eq, lid_ne, ne_lid]) (by simp [upI_ne, upL_ne, rdI, rdL, lid_eq, lid_ne, ne_lid]) rfl
  · split <;> exact CRl_cong (h6 l hl).2.2 (by simp [upI_ne, upL_ne, rdI, rdL, lid_eq, lid_ne, ne_lid]) (by simp [upI_ne, upL_ne, rdI, rdL, lid_eq, lid_ne, ne_lid]) (by simp [upI_ne, upL_ne, rdI, rdL, lid_eq, lid_ne, ne_lid]) (by simp [upI_ne, upL_ne, rdI, rdL, lid_eq, lid_ne, ne_lid]) (by simp [upI_ne, upL_ne, rdI, rdL, lid_eq, lid_ne, ne_lid]) (by simp [upI_ne, upL_ne, rdI, rdL, lid_eq, lid_ne, ne_lid]) rfl rfl rfl rfl (by simp [upI_ne, upL_ne, rdI, rdL, lid_eq, lid_ne, ne_lid]) rfl
  · split <;> simp [upI_ne, upL_ne, rdI, rdL, lid_eq, lid_ne, ne_lid, show i9 ≠ 353 by omega]
/-- the runner's counters -/
theorem CX_w {n w nf fr : Nat} {S I J : MI} {T L M : ML} (w' nf' fr' : Nat) {I' : MI} (h : CX n S T w nf fr J M I L) (hI : ∀ i, i ≠ 1 → I' i = I i) (h5 : I' 1 5 = nI w') (h6 : I' 1 6 = nI nf') (h7 : I' 1 7 = nI fr') (hw9 : w' ≤ 1000 := by omega) : CX n S T w' nf' fr' J M I' L := by
  obtain ⟨⟨a1, a2, a3, a4, a5, a6⟩, b, -, c⟩ := h
  refine ⟨⟨?_, ?_, ?_, ?_, ?_, fun l hl => ⟨?_, ?_, ?_⟩⟩, b, ⟨h5, h6, h7⟩, fun i hi => ?_, hw9⟩
  · simpa [CRt, hI] using a1
  · simpa [CRk, hI] using a2
  · simpa [CRp, hI] using a3
  · simpa [CRc, hI] using a4
  · simpa [CRs, hI] using a5
  · exact CRq_cong2 (a6 l hl).1 rfl (fun _ _ => rfl) (fun _ _ => rfl) (fun _ _ => rfl) (hI _ (by simp [lid_ne])) (hI _ (by simp [lid_ne])) (hI _ (by simp [lid_ne])) (hI _ (by simp [lid_ne]))
  · exact CRm_cong (a6 l hl).2.1 rfl rfl rfl rfl (by rw [hI _ (by simp [lid_ne])]) (hI _ (by simp [lid_ne])) (hI _ (by simp [lid_ne])) rfl
  · exact CRl_cong (a6 l hl).2.2 rfl rfl rfl rfl rfl rfl rfl rfl rfl rfl (hI _ (by simp [lid_ne])) rfl
  · have := oth_b hi
    rw [hI i (by omega)]
    exact c.1 i hi
