/-! ===== the host's own calls: tasks, orders, promises, channels, handlers, the clock ===== -/
def Ftask (S : MI) : MI := upI S 30 3 (S 30 3 + 1)
def Ford (S : MI) (t : Nat) (k a b : Int32) : MI := upI (upI (upI (upI S 205 (8 * t + N (S 204 t)) k) 206 (8 * t + N (S 204 t)) a) 207 (8 * t + N (S 204 t)) b) 204 t (S 204 t + 1)
def Fpadd (S : MI) (e : Int32) : MI := upI (upI S 228 (N (S 30 27)) e) 30 27 (S 30 27 + 1)
def Fpair (S : MI) (x z : Int32) : MI := upI (upI (upI S 235 (N (S 30 34)) x) 235 (N (S 30 34) + 1) z) 30 34 (S 30 34 + 2)
def Fhadd (S : MI) (c : Nat) (k t : Int32) : MI := upI (upI (upI (upI (upI S 237 (6 * c + N (S 236 c)) k) 238 (6 * c + N (S 236 c)) t) 239 (6 * c + N (S 236 c)) (S 30 40)) 236 c (S 236 c + 1)) 30 40 (S 30 40 + 1)
def Fhrem (S : MI) (c p : Nat) : MI := fun x z => if (x = 237 ∨ x = 238 ∨ x = 239) ∧ 6 * c + p ≤ z ∧ z + 1 < 6 * c + N (S 236 c) then S x (z + 1) else if x = 236 ∧ z = c then nI (N (S 236 c) - 1) else S x z
theorem Fhrem_ne {S : MI} {c p x : Nat} (h1 : x ≠ 237) (h2 : x ≠ 238) (h3 : x ≠ 239) (h4 : x ≠ 236) : Fhrem S c p x = S x := by
  funext z
  simp [Fhrem, h1, h2, h3, h4]
theorem Fhrem_236 {S : MI} {c p z : Nat} : Fhrem S c p 236 z = if z = c then nI (N (S 236 c) - 1) else S 236 z := by
  unfold Fhrem
  rw [if_neg (fun q => by rcases q.1 with h | h | h <;> omega)]
  simp
theorem nbt_mono {x : Int32} {a b : Nat} (h : nbt x a) (hab : a ≤ b) : nbt x b := ⟨h.1, Nat.lt_of_lt_of_le h.2 hab⟩
set_option maxHeartbeats 1000000 in
theorem Inv_task {n : Nat} {S : MI} (h : Inv n S) (ht : N (S 30 3) < 24) : Inv n (Ftask S) := by
  obtain ⟨h1, h2, h3, h4, h5, h6, h7, h8⟩ := h
  have e9 : S 30 3 + 1 = nI (N (S 30 3) + 1) := nI_add1 h3.1.1
  have e2 : Ftask S 30 3 = nI (N (S 30 3) + 1) := by simp [Ftask, rdI, e9]
  have e3 : N (Ftask S 30 3) = N (S 30 3) + 1 := by rw [e2]; exact N_nI (by omega)
  refine ⟨h1, (by simpa [Ftask, upI_ne, rdI] using h2), ?_, ?_, ?_, ?_, fun l hl => ⟨?_, ?_, InvS_cong (h7 l hl).2.2 (by simp [Ftask, upI_ne, rdI])⟩, (by simpa [Ftask, upI_ne, rdI] using h8)⟩
  · exact ⟨nb_of e2 (by omega) (by decide), fun t => by simpa [Ftask, rdI] using h3.2 t⟩
  · unfold InvP
    rw [e3]
    refine ⟨by simpa [Ftask, rdI] using h4.1, fun p hp => ?_⟩
    obtain ⟨a1, a2, a3⟩ := h4.2 p (by simpa [Ftask, rdI] using hp)
    exact ⟨by simpa [Ftask, rdI] using a1, by simpa [Ftask, rdI] using a2, fun j hj => nbt_mono (by simpa [Ftask, rdI] using a3 j (by simpa [Ftask, rdI] using hj)) (Nat.le_succ _)⟩
  · unfold InvC
    rw [e3]
    refine ⟨by simpa [Ftask, rdI] using h5.1, by simpa [Ftask, rdI] using h5.2.1, fun c hc => ?_⟩
    obtain ⟨a1, a2, a3⟩ := h5.2.2 c (by simpa [Ftask, rdI] using hc)
    exact ⟨by simpa [Ftask, rdI] using a1, by simpa [Ftask, rdI] using a2, fun j hj hk => nbt_mono (by simpa [Ftask, rdI] using a3 j (by simpa [Ftask, rdI] using hj) (by simpa [Ftask, rdI] using hk)) (Nat.le_succ _)⟩
  · unfold InvM
    rw [e3]
    refine ⟨by simpa [Ftask, rdI] using h6.1, fun t ht9 => ?_⟩
    obtain ⟨a1, a2⟩ := h6.2 t (by simpa [Ftask, rdI] using ht9)
    exact ⟨nbt_mono (by simpa [Ftask, rdI] using a1) (Nat.le_succ _), by simpa [Ftask, rdI] using a2⟩
  · have hq := (h7 l hl).1
    unfold InvQ at hq ⊢
    rw [e3]
    refine ⟨by simpa [Ftask, rdI] using hq.1, fun j hj => ?_⟩
    rcases hq.2 j (by simpa [Ftask, rdI] using hj) with ⟨b1, b2⟩ | ⟨b1, b2⟩
    · exact Or.inl ⟨by simpa [Ftask, rdI] using b1, by simpa [Ftask, rdI] using b2⟩
    · exact Or.inr ⟨by simpa [Ftask, rdI] using b1, nbt_mono (by simpa [Ftask, rdI] using b2) (Nat.le_succ _)⟩
  · have hq := (h7 l hl).2.1
    unfold InvB at hq ⊢
    rw [e3]
    refine ⟨by simpa [Ftask, rdI] using hq.1, fun hb => ?_⟩
    obtain ⟨b1, b2, b3⟩ := hq.2 (by simpa [Ftask, rdI] using hb)
    exact ⟨nbt_mono (by simpa [Ftask, rdI] using b1) (Nat.le_succ _), by simpa [Ftask, rdI] using b2, by simpa [Ftask, rdI] using b3⟩
set_option maxHeartbeats 1000000 in
theorem CX_task {n w nf fr : Nat} {S I J : MI} {T L M : ML} (h : CX n S T w nf fr J M I L) (ht : N (S 30 3) < 24) : CX n (Ftask S) (T) w nf fr J M (Ctadd I) (L) := by
  obtain ⟨h1, h2, h3, h4, h5, h6⟩ := id h.1
  have hV := h.2.1.2.2.2.2.2.2.1
  refine CX_of h ⟨?_, ?_, ?_, ?_, ?_, fun l hl => ⟨?_, ?_, ?_⟩⟩ (Inv_task h.2.1 ht) (by simp [Ftask, Ctadd, upI_ne, upL_ne, rdI, rdL, lid_eq, lid_ne, ne_lid]) (fun i9 h79 h89 => ?_)
  · simpa [CRt, Ftask, Ctadd, upI_ne, upL_ne, rdI, rdL, lid_eq, lid_ne, ne_lid] using h1
  · obtain ⟨a1, a2, a3, a4, a5⟩ := h2
    exact ⟨by simp [Ftask, Ctadd, upI_ne, upL_ne, rdI, rdL, lid_eq, lid_ne, ne_lid, a1], by simpa [Ftask, Ctadd, upI_ne, upL_ne, rdI, rdL, lid_eq, lid_ne, ne_lid] using a2, by simpa [Ftask, Ctadd, upI_ne, upL_ne, rdI, rdL, lid_eq, lid_ne, ne_lid] using a3, by simpa [Ftask, Ctadd, upI_ne, upL_ne, rdI, rdL, lid_eq, lid_ne, ne_lid] using a4, by simpa [Ftask, Ctadd, upI_ne, upL_ne, rdI, rdL, lid_eq, lid_ne, ne_lid] using a5⟩
  · simpa [CRp, Ftask, Ctadd, upI_ne, upL_ne, rdI, rdL, lid_eq, lid_ne, ne_lid] using h3
  · simpa [CRc, Ftask, Ctadd, upI_ne, upL_ne, rdI, rdL, lid_eq, lid_ne, ne_lid] using h4
  · simpa [CRs, Ftask, Ctadd, upI_ne, upL_ne, rdI, rdL, lid_eq, lid_ne, ne_lid] using h5
  · exact CRq_cong2 (h6 l hl).1 (by simp [Ftask, Ctadd, upI_ne, upL_ne, rdI, rdL, lid_eq, lid_ne, ne_lid]) (fun j hj => by simp [Ftask, Ctadd, upI_ne, upL_ne, rdI, rdL, lid_eq, lid_ne, ne_lid]) (fun j hj => by simp [Ftask, Ctadd, upI_ne, upL_ne, rdI, rdL, lid_eq, lid_ne, ne_lid]) (fun j hj => by simp [Ftask, Ctadd, upI_ne, upL_ne, rdI, rdL, lid_eq, lid_ne, ne_lid]) (by simp [Ftask, Ctadd, upI_ne, upL_ne, rdI, rdL, lid_eq, lid_ne, ne_lid]) (by simp [Ftask, Ctadd, upI_ne, upL_ne, rdI, rdL, lid_eq, lid_ne, ne_lid]) (by simp [Ftask, Ctadd, upI_ne, upL_ne, rdI, rdL, lid_eq, lid_ne, ne_lid]) (by simp [Ftask, Ctadd, upI_ne, upL_ne, rdI, rdL, lid_eq, lid_ne, ne_lid])
  · exact CRm_cong (h6 l hl).2.1 (by simp [Ftask, Ctadd, upI_ne, upL_ne, rdI, rdL, lid_eq, lid_ne, ne_lid]) (by simp [Ftask, Ctadd, upI_ne, upL_ne, rdI, rdL, lid_eq, lid_ne, ne_lid]) (by simp [Ftask, Ctadd, upI_ne, upL_ne, rdI, rdL, lid_eq, lid_ne, ne_lid]) (by simp [Ftask, Ctadd, upI_ne, upL_ne, rdI, rdL, lid_eq, lid_ne, ne_lid]) (by simp [Ftask, Ctadd, upI_ne, upL_ne, rdI, rdL, lid_eq, lid_ne, ne_lid]) (by simp [Ftask, Ctadd, upI_ne, upL_ne, rdI, rdL, lid_eq, lid_ne, ne_lid]) (by simp [Ftask, Ctadd, upI_ne, upL_ne, rdI, rdL, lid_eq, lid_ne, ne_lid]) (by simp [Ftask, Ctadd, upI_ne, upL_ne, rdI, rdL, lid_eq, lid_ne, ne_lid])
  · exact CRl_cong (h6 l hl).2.2 (by simp [Ftask, Ctadd, upI_ne, upL_ne, rdI, rdL, lid_eq, lid_ne, ne_lid]) (by simp [Ftask, Ctadd, upI_ne, upL_ne, rdI, rdL, lid_eq, lid_ne, ne_lid]) (by simp [Ftask, Ctadd, upI_ne, upL_ne, rdI, rdL, lid_eq, lid_ne, ne_lid]) (by simp [Ftask, Ctadd, upI_ne, upL_ne, rdI, rdL, lid_eq, lid_ne, ne_lid]) (by simp [Ftask, Ctadd, upI_ne, upL_ne, rdI, rdL, lid_eq, lid_ne, ne_lid]) (by simp [Ftask, Ctadd, upI_ne, upL_ne, rdI, rdL, lid_eq, lid_ne, ne_lid]) (by simp [Ftask, Ctadd, upI_ne, upL_ne, rdI, rdL, lid_eq, lid_ne, ne_lid]) (by simp [Ftask, Ctadd, upI_ne, upL_ne, rdI, rdL, lid_eq, lid_ne, ne_lid]) (by simp [Ftask, Ctadd, upI_ne, upL_ne, rdI, rdL, lid_eq, lid_ne, ne_lid]) (by simp [Ftask, Ctadd, upI_ne, upL_ne, rdI, rdL, lid_eq, lid_ne, ne_lid]) (by simp [Ftask, Ctadd, upI_ne, upL_ne, rdI, rdL, lid_eq, lid_ne, ne_lid]) (by simp [Ftask, Ctadd, upI_ne, upL_ne, rdI, rdL, lid_eq, lid_ne, ne_lid])
  · simp [Ftask, Ctadd, upI_ne, upL_ne, rdI, rdL, lid_eq, lid_ne, ne_lid, ne_lid (show i9 < 1000 by omega), show i9 ≠ 1 by omega, show i9 ≠ 2 by omega, show i9 ≠ 3 by omega, show i9 ≠ 4 by omega, show i9 ≠ 5 by omega, show i9 ≠ 6 by omega, show i9 ≠ 330 by omega, show i9 ≠ 340 by omega, show i9 ≠ 341 by omega, show i9 ≠ 342 by omega, show i9 ≠ 343 by omega, show i9 ≠ 350 by omega, show i9 ≠ 351 by omega, show i9 ≠ 352 by omega, show i9 ≠ 353 by omega, show i9 ≠ 354 by omega, show i9 ≠ 355 by omega, show i9 ≠ 360 by omega, show i9 ≠ 361 by omega, show i9 ≠ 362 by omega, show i9 ≠ 363 by omega, show i9 ≠ 364 by omega]
set_option maxHeartbeats 1000000 in
theorem Inv_ord {n : Nat} {S : MI} {t : Nat} (k a b : Int32) (h : Inv n S) (hm : N (S 204 t) < 8) : Inv n (Ford S t k a b) := by
  obtain ⟨h1, h2, h3, h4, h5, h6, h7, h8⟩ := h
  refine ⟨h1, (by simpa [Ford, upI_ne, rdI] using h2), ?_, InvP_cong h4 (by simp [Ford, upI_ne, rdI]) (by simp [Ford, upI_ne, rdI]) (by simp [Ford, upI_ne, rdI]) (by simp [Ford, upI_ne, rdI]) (by simp [Ford, upI_ne, rdI]), InvC_cong h5 (by simp [Ford, upI_ne, rdI]) (by simp [Ford, upI_ne, rdI]) (by simp [Ford, upI_ne, rdI]) (by simp [Ford, upI_ne, rdI]) (by simp [Ford, upI_ne, rdI]) (by simp [Ford, upI_ne, rdI]), InvM_cong h6 (by simp [Ford, upI_ne, rdI]) (by simp [Ford, upI_ne, rdI]) (by simp [Ford, upI_ne, rdI]) (by simp [Ford, upI_ne, rdI]), fun l hl => ⟨InvQ_cong (h7 l hl).1 (by simp [Ford, upI_ne, rdI]) (by simp [Ford, upI_ne, rdI]) (by simp [Ford, upI_ne, rdI]) (fun j hj => by simp [Ford, upI_ne, rdI]) (fun j hj => by simp [Ford, upI_ne, rdI]), InvB_cong (h7 l hl).2.1 (by simp [Ford, upI_ne, rdI]) (by simp [Ford, upI_ne, rdI]) (by simp [Ford, upI_ne, rdI]) (by simp [Ford, upI_ne, rdI]) (by simp [Ford, upI_ne, rdI]) (by simp [Ford, upI_ne, rdI]), InvS_cong (h7 l hl).2.2 (by simp [Ford, upI_ne, rdI])⟩, (by simpa [Ford, upI_ne, rdI] using h8)⟩
  · refine ⟨by simpa [Ford, rdI] using h3.1, fun q => ?_⟩
    by_cases e : q = t
    · subst e
      exact nb_of (j := N (S 204 q) + 1) (by simp [Ford, rdI]; exact nI_add1 (h3.2 q).1) (by omega) (by decide)
    · simpa [Ford, rdI, e] using h3.2 q
set_option maxHeartbeats 1000000 in
theorem CX_ord {n w nf fr : Nat} {S I J : MI} {T L M : ML} {t : Nat} (k a b : Int32) (h : CX n S T w nf fr J M I L) (hm : N (S 204 t) < 8) : CX n (Ford S t k a b) (T) w nf fr J M (Cord I t (N (S 204 t)) k a b) (L) := by
  obtain ⟨h1, h2, h3, h4, h5, h6⟩ := id h.1
  have hV := h.2.1.2.2.2.2.2.2.1
  refine CX_of h ⟨?_, ?_, ?_, ?_, ?_, fun l hl => ⟨?_, ?_, ?_⟩⟩ (Inv_ord k a b h.2.1 hm) (by simp [Ford, Cord, upI_ne, upL_ne, rdI, rdL, lid_eq, lid_ne, ne_lid]) (fun i9 h79 h89 => ?_)
  · simpa [CRt, Ford, Cord, upI_ne, upL_ne, rdI, rdL, lid_eq, lid_ne, ne_lid] using h1
  · obtain ⟨a1, a2, a3, a4, a5⟩ := h2
    have e9 : S 204 t + 1 = nI (N (S 204 t) + 1) := nI_add1 (h.2.1.2.2.1.2 t).1
    refine ⟨by simpa [Ford, Cord, upI_ne, upL_ne, rdI, rdL, lid_eq, lid_ne, ne_lid] using a1, ?_, ?_, ?_, ?_⟩ <;> funext q <;> simp [Ford, Cord, upI_ne, upL_ne, rdI, rdL, lid_eq, lid_ne, ne_lid, a2, a3, a4, a5, e9]
  · simpa [CRp, Ford, Cord, upI_ne, upL_ne, rdI, rdL, lid_eq, lid_ne, ne_lid] using h3
  · simpa [CRc, Ford, Cord, upI_ne, upL_ne, rdI, rdL, lid_eq, lid_ne, ne_lid] using h4
  · simpa [CRs, Ford, Cord, upI_ne, upL_ne, rdI, rdL, lid_eq, lid_ne, ne_lid] using h5
  · exact CRq_cong2 (h6 l hl).1 (by simp [Ford, Cord, upI_ne, upL_ne, rdI, rdL, lid_eq, lid_ne, ne_lid]) (fun j hj => by simp [Ford, Cord, upI_ne, upL_ne, rdI, rdL, lid_eq, lid_ne, ne_lid]) (fun j hj => by simp [Ford, Cord, upI_ne, upL_ne, rdI, rdL, lid_eq, lid_ne, ne_lid]) (fun j hj => by simp [Ford, Cord, upI_ne, upL_ne, rdI, rdL, lid_eq, lid_ne, ne_lid]) (by simp [Ford, Cord, upI_ne, upL_ne, rdI, rdL, lid_eq, lid_ne, ne_lid]) (by simp [Ford, Cord, upI_ne, upL_ne, rdI, rdL, lid_eq, lid_ne, ne_lid]) (by simp [Ford, Cord, upI_ne, upL_ne, rdI, rdL, lid_eq, lid_ne, ne_lid]) (by simp [Ford, Cord, upI_ne, upL_ne, rdI, rdL, lid_eq, lid_ne, ne_lid])
  · exact CRm_cong (h6 l hl).2.1 (by simp [Ford, Cord, upI_ne, upL_ne, rdI, rdL, lid_eq, lid_ne, ne_lid]) (by simp [Ford, Cord, upI_ne, upL_ne, rdI, rdL, lid_eq, lid_ne, ne_lid]) (by simp [Ford, Cord, upI_ne, upL_ne, rdI, rdL, lid_eq, lid_ne, ne_lid]) (by simp [Ford, Cord, upI_ne, upL_ne, rdI, rdL, lid_eq, lid_ne, ne_lid]) (by simp [Ford, Cord, upI_ne, upL_ne, rdI, rdL, lid_eq, lid_ne, ne_lid]) (by simp [Ford, Cord, upI_ne, upL_ne, rdI, rdL, lid_eq, lid_ne, ne_lid]) (by simp [Ford, Cord, upI_ne, upL_ne, rdI, rdL, lid_eq, lid_ne, ne_lid]) (by simp [Ford, Cord, upI_ne, upL_ne, rdI, rdL, lid_eq, lid_ne, ne_lid])
  · exact CRl_cong (h6 l hl).2.2 (by simp [Ford, Cord, upI_ne, upL_ne, rdI, rdL, lid_eq, lid_ne, ne_lid]) (by simp [Ford, Cord, upI_ne, upL_ne, rdI, rdL, lid_eq, lid_ne, ne_lid]) (by simp [Ford, Cord, upI_ne, upL_ne, rdI, rdL, lid_eq, lid_ne, ne_lid]) (by simp [Ford, Cord, upI_ne, upL_ne, rdI, rdL, lid_eq, lid_ne, ne_lid]) (by simp [Ford, Cord, upI_ne, upL_ne, rdI, rdL, lid_eq, lid_ne, ne_lid]) (by simp [Ford, Cord, upI_ne, upL_ne, rdI, rdL, lid_eq, lid_ne, ne_lid]) (by simp [Ford, Cord, upI_ne, upL_ne, rdI, rdL, lid_eq, lid_ne, ne_lid]) (by simp [Ford, Cord, upI_ne, upL_ne, rdI, rdL, lid_eq, lid_ne, ne_lid]) (by simp [Ford, Cord, upI_ne, upL_ne, rdI, rdL, lid_eq, lid_ne, ne_lid]) (by simp [Ford, Cord, upI_ne, upL_ne, rdI, rdL, lid_eq, lid_ne, ne_lid]) (by simp [Ford, Cord, upI_ne, upL_ne, rdI, rdL, lid_eq, lid_ne, ne_lid]) (by simp [Ford, Cord, upI_ne, upL_ne, rdI, rdL, lid_eq, lid_ne, ne_lid])
  · simp [Ford, Cord, upI_ne, upL_ne, rdI, rdL, lid_eq, lid_ne, ne_lid, ne_lid (show i9 < 1000 by omega), show i9 ≠ 1 by omega, show i9 ≠ 2 by omega, show i9 ≠ 3 by omega, show i9 ≠ 4 by omega, show i9 ≠ 5 by omega, show i9 ≠ 6 by omega, show i9 ≠ 330 by omega, show i9 ≠ 340 by omega, show i9 ≠ 341 by omega, show i9 ≠ 342 by omega, show i9 ≠ 343 by omega, show i9 ≠ 350 by omega, show i9 ≠ 351 by omega, show i9 ≠ 352 by omega, show i9 ≠ 353 by omega, show i9 ≠ 354 by omega, show i9 ≠ 355 by omega, show i9 ≠ 360 by omega, show i9 ≠ 361 by omega, show i9 ≠ 362 by omega, show i9 ≠ 363 by omega, show i9 ≠ 364 by omega]
set_option maxHeartbeats 1000000 in
theorem Inv_padd {n : Nat} {S : MI} {e : Nat} (h : Inv n S) (hp : N (S 30 27) < 32) (he : e < n) (hfr : ∀ p, N (S 30 27) ≤ p → S 232 p = 0) : Inv n (Fpadd S (nI e)) := by
  obtain ⟨h1, h2, h3, h4, h5, h6, h7, h8⟩ := h
  have e9 : S 30 27 + 1 = nI (N (S 30 27) + 1) := nI_add1 h4.1.1
  have e2 : Fpadd S (nI e) 30 27 = nI (N (S 30 27) + 1) := by simp [Fpadd, rdI, e9]
  have e3 : N (Fpadd S (nI e) 30 27) = N (S 30 27) + 1 := by rw [e2]; exact N_nI (by omega)
  refine ⟨h1, (by simpa [Fpadd, upI_ne, rdI] using h2), InvT_cong h3 (by simp [Fpadd, upI_ne, rdI]) (by simp [Fpadd, upI_ne, rdI]), ?_, InvC_cong h5 (by simp [Fpadd, upI_ne, rdI]) (by simp [Fpadd, upI_ne, rdI]) (by simp [Fpadd, upI_ne, rdI]) (by simp [Fpadd, upI_ne, rdI]) (by simp [Fpadd, upI_ne, rdI]) (by simp [Fpadd, upI_ne, rdI]), InvM_cong h6 (by simp [Fpadd, upI_ne, rdI]) (by simp [Fpadd, upI_ne, rdI]) (by simp [Fpadd, upI_ne, rdI]) (by simp [Fpadd, upI_ne, rdI]), fun l hl => ⟨InvQ_cong (h7 l hl).1 (by simp [Fpadd, upI_ne, rdI]) (by simp [Fpadd, upI_ne, rdI]) (by simp [Fpadd, upI_ne, rdI]) (fun j hj => by simp [Fpadd, upI_ne, rdI]) (fun j hj => by simp [Fpadd, upI_ne, rdI]), ?_, InvS_cong (h7 l hl).2.2 (by simp [Fpadd, upI_ne, rdI])⟩, (by simpa [Fpadd, upI_ne, rdI] using h8)⟩
  · unfold InvP
    rw [e3]
    refine ⟨nb_of e2 (by omega) (by decide), fun p hp9 => ?_⟩
    by_cases ep : p = N (S 30 27)
    · have hz := hfr p (by omega)
      have hz2 : Fpadd S (nI e) 232 p = 0 := by simpa [Fpadd, rdI] using hz
      refine ⟨?_, ?_, fun j hj => ?_⟩
      · have : N (nI e) = e := N_nI (by omega)
        simp only [nbt, Fpadd, rdI, ep]
        simp [this, he]
      · rw [hz2]
        exact nb_of (j := 0) rfl (by omega) (by decide)
      · rw [hz2] at hj
        exact absurd hj (Nat.not_lt_zero _)
    · obtain ⟨a1, a2, a3⟩ := h4.2 p (by omega)
      exact ⟨by simpa [Fpadd, rdI, ep] using a1, by simpa [Fpadd, rdI] using a2, fun j hj => by simpa [Fpadd, rdI] using a3 j (by simpa [Fpadd, rdI] using hj)⟩
  · have hq := (h7 l hl).2.1
    unfold InvB at hq ⊢
    rw [e3]
    refine ⟨by simpa [Fpadd, rdI] using hq.1, fun hb => ?_⟩
    obtain ⟨b1, b2, b3⟩ := hq.2 (by simpa [Fpadd, rdI] using hb)
    exact ⟨by simpa [Fpadd, rdI] using b1, by simpa [Fpadd, rdI] using b2, nbt_mono (by simpa [Fpadd, rdI] using b3) (Nat.le_succ _)⟩
set_option maxHeartbeats 1000000 in
theorem CX_padd {n w nf fr : Nat} {S I J : MI} {T L M : ML} {e : Nat} (h : CX n S T w nf fr J M I L) (hp : N (S 30 27) < 32) (he : e < n) (hfr : ∀ p, N (S 30 27) ≤ p → S 232 p = 0) : CX n (Fpadd S (nI e)) (T) w nf fr J M (Cpadd I (N (S 30 27)) (nI e)) (L) := by
  obtain ⟨h1, h2, h3, h4, h5, h6⟩ := id h.1
  have hV := h.2.1.2.2.2.2.2.2.1
  refine CX_of h ⟨?_, ?_, ?_, ?_, ?_, fun l hl => ⟨?_, ?_, ?_⟩⟩ (Inv_padd h.2.1 hp he hfr) (by simp [Fpadd, Cpadd, upI_ne, upL_ne, rdI, rdL, lid_eq, lid_ne, ne_lid]) (fun i9 h79 h89 => ?_)
  · simpa [CRt, Fpadd, Cpadd, upI_ne, upL_ne, rdI, rdL, lid_eq, lid_ne, ne_lid] using h1
  · simpa [CRk, Fpadd, Cpadd, upI_ne, upL_ne, rdI, rdL, lid_eq, lid_ne, ne_lid] using h2
  · obtain ⟨a1, a2, a3, a4, a5, a6, a7⟩ := h3
    have e9 : S 30 27 + 1 = nI (N (S 30 27) + 1) := nI_add1 h.2.1.2.2.2.1.1.1
    refine ⟨by simp [Fpadd, Cpadd, upI_ne, upL_ne, rdI, rdL, lid_eq, lid_ne, ne_lid, e9], ?_, by simpa [Fpadd, Cpadd, upI_ne, upL_ne, rdI, rdL, lid_eq, lid_ne, ne_lid] using a3, by simpa [Fpadd, Cpadd, upI_ne, upL_ne, rdI, rdL, lid_eq, lid_ne, ne_lid] using a4, fun q hq => by simpa [Fpadd, Cpadd, upI_ne, upL_ne, rdI, rdL, lid_eq, lid_ne, ne_lid] using a5 q (by simpa [Fpadd, Cpadd, upI_ne, upL_ne, rdI, rdL, lid_eq, lid_ne, ne_lid] using hq), by simpa [Fpadd, Cpadd, upI_ne, upL_ne, rdI, rdL, lid_eq, lid_ne, ne_lid] using a6, by simpa [Fpadd, Cpadd, upI_ne, upL_ne, rdI, rdL, lid_eq, lid_ne, ne_lid] using a7⟩
    funext q
    simp [Fpadd, Cpadd, upI_ne, upL_ne, rdI, rdL, lid_eq, lid_ne, ne_lid, a2]
  · simpa [CRc, Fpadd, Cpadd, upI_ne, upL_ne, rdI, rdL, lid_eq, lid_ne, ne_lid] using h4
  · simpa [CRs, Fpadd, Cpadd, upI_ne, upL_ne, rdI, rdL, lid_eq, lid_ne, ne_lid] using h5
  · exact CRq_cong2 (h6 l hl).1 (by simp [Fpadd, Cpadd, upI_ne, upL_ne, rdI, rdL, lid_eq, lid_ne, ne_lid]) (fun j hj => by simp [Fpadd, Cpadd, upI_ne, upL_ne, rdI, rdL, lid_eq, lid_ne, ne_lid]) (fun j hj => by simp [Fpadd, Cpadd, upI_ne, upL_ne, rdI, rdL, lid_eq, lid_ne, ne_lid]) (fun j hj => by simp [Fpadd, Cpadd, upI_ne, upL_ne, rdI, rdL, lid_eq, lid_ne, ne_lid]) (by simp [Fpadd, Cpadd, upI_ne, upL_ne, rdI, rdL, lid_eq, lid_ne, ne_lid]) (by simp [Fpadd, Cpadd, upI_ne, upL_ne, rdI, rdL, lid_eq, lid_ne, ne_lid]) (by simp [Fpadd, Cpadd, upI_ne, upL_ne, rdI, rdL, lid_eq, lid_ne, ne_lid]) (by simp [Fpadd, Cpadd, upI_ne, upL_ne, rdI, rdL, lid_eq, lid_ne, ne_lid])
  · exact CRm_cong (h6 l hl).2.1 (by simp [Fpadd, Cpadd, upI_ne, upL_ne, rdI, rdL, lid_eq, lid_ne, ne_lid]) (by simp [Fpadd, Cpadd, upI_ne, upL_ne, rdI, rdL, lid_eq, lid_ne, ne_lid]) (by simp [Fpadd, Cpadd, upI_ne, upL_ne, rdI, rdL, lid_eq, lid_ne, ne_lid]) (by simp [Fpadd, Cpadd, upI_ne, upL_ne, rdI, rdL, lid_eq, lid_ne, ne_lid]) (by simp [Fpadd, Cpadd, upI_ne, upL_ne, rdI, rdL, lid_eq, lid_ne, ne_lid]) (by simp [Fpadd, Cpadd, upI_ne, upL_ne, rdI, rdL, lid_eq, lid_ne, ne_lid]) (by simp [Fpadd, Cpadd, upI_ne, upL_ne, rdI, rdL, lid_eq, lid_ne, ne_lid]) (by simp [Fpadd, Cpadd, upI_ne, upL_ne, rdI, rdL, lid_eq, lid_ne, ne_lid])
  · exact CRl_cong (h6 l hl).2.2 (by simp [Fpadd, Cpadd, upI_ne, upL_ne, rdI, rdL, lid_eq, lid_ne, ne_lid]) (by simp [Fpadd, Cpadd, upI_ne, upL_ne, rdI, rdL, lid_eq, lid_ne, ne_lid]) (by simp [Fpadd, Cpadd, upI_ne, upL_ne, rdI, rdL, lid_eq, lid_ne, ne_lid]) (by simp [Fpadd, Cpadd, upI_ne, upL_ne, rdI, rdL, lid_eq, lid_ne, ne_lid]) (by simp [Fpadd, Cpadd, upI_ne, upL_ne, rdI, rdL, lid_eq, lid_ne, ne_lid]) (by simp [Fpadd, Cpadd, upI_ne, upL_ne, rdI, rdL, lid_eq, lid_ne, ne_lid]) (by simp [Fpadd, Cpadd, upI_ne, upL_ne, rdI, rdL, lid_eq, lid_ne, ne_lid]) (by simp [Fpadd, Cpadd, upI_ne, upL_ne, rdI, rdL, lid_eq, lid_ne, ne_lid]) (by simp [Fpadd, Cpadd, upI_ne, upL_ne, rdI, rdL, lid_eq, lid_ne, ne_lid]) (by simp [Fpadd, Cpadd, upI_ne, upL_ne, rdI, rdL, lid_eq, lid_ne, ne_lid]) (by simp [Fpadd, Cpadd, upI_ne, upL_ne, rdI, rdL, lid_eq, lid_ne, ne_lid]) (by simp [Fpadd, Cpadd, upI_ne, upL_ne, rdI, rdL, lid_eq, lid_ne, ne_lid])
  · simp [Fpadd, Cpadd, upI_ne, upL_ne, rdI, rdL, lid_eq, lid_ne, ne_lid, ne_lid (show i9 < 1000 by omega), show i9 ≠ 1 by omega, show i9 ≠ 2 by omega, show i9 ≠ 3 by omega, show i9 ≠ 4 by omega, show i9 ≠ 5 by omega, show i9 ≠ 6 by omega, show i9 ≠ 330 by omega, show i9 ≠ 340 by omega, show i9 ≠ 341 by omega, show i9 ≠ 342 by omega, show i9 ≠ 343 by omega, show i9 ≠ 350 by omega, show i9 ≠ 351 by omega, show i9 ≠ 352 by omega, show i9 ≠ 353 by omega, show i9 ≠ 354 by omega, show i9 ≠ 355 by omega, show i9 ≠ 360 by omega, show i9 ≠ 361 by omega, show i9 ≠ 362 by omega, show i9 ≠ 363 by omega, show i9 ≠ 364 by omega]
set_option maxHeartbeats 1000000 in
theorem Inv_pair {n : Nat} {S : MI} {x z : Nat} (h : Inv n S) (hc : N (S 30 34) < 16) (hx : x < n) (hz : z < n) (hfr : ∀ c, N (S 30 34) ≤ c → S 236 c = 0) : Inv n (Fpair S (nI x) (nI z)) := by
  obtain ⟨h1, h2, h3, h4, h5, h6, h7, h8⟩ := h
  have e9 : S 30 34 + 2 = nI (N (S 30 34) + 2) := by
    have := h5.1.1
    generalize N (S 30 34) = q at *
    rw [this]
    exact nI_add q 2
  have hev := h5.2.1
  have e2 : Fpair S (nI x) (nI z) 30 34 = nI (N (S 30 34) + 2) := by simp [Fpair, rdI, e9]
  have e3 : N (Fpair S (nI x) (nI z) 30 34) = N (S 30 34) + 2 := by rw [e2]; exact N_nI (by omega)
  refine ⟨h1, (by simpa [Fpair, upI_ne, rdI] using h2), InvT_cong h3 (by simp [Fpair, upI_ne, rdI]) (by simp [Fpair, upI_ne, rdI]), InvP_cong h4 (by simp [Fpair, upI_ne, rdI]) (by simp [Fpair, upI_ne, rdI]) (by simp [Fpair, upI_ne, rdI]) (by simp [Fpair, upI_ne, rdI]) (by simp [Fpair, upI_ne, rdI]), ?_, InvM_cong h6 (by simp [Fpair, upI_ne, rdI]) (by simp [Fpair, upI_ne, rdI]) (by simp [Fpair, upI_ne, rdI]) (by simp [Fpair, upI_ne, rdI]), fun l hl => ⟨?_, InvB_cong (h7 l hl).2.1 (by simp [Fpair, upI_ne, rdI]) (by simp [Fpair, upI_ne, rdI]) (by simp [Fpair, upI_ne, rdI]) (by simp [Fpair, upI_ne, rdI]) (by simp [Fpair, upI_ne, rdI]) (by simp [Fpair, upI_ne, rdI]), InvS_cong (h7 l hl).2.2 (by simp [Fpair, upI_ne, rdI])⟩, (by simpa [Fpair, upI_ne, rdI] using h8)⟩
  · unfold InvC
    rw [e3]
    refine ⟨nb_of e2 (by omega) (by decide), by omega, fun c hc9 => ?_⟩
    by_cases ec : c < N (S 30 34)
    · obtain ⟨a1, a2, a3⟩ := h5.2.2 c ec
      have n1 : ¬ c = N (S 30 34) := by omega
      have n2 : ¬ c = N (S 30 34) + 1 := by omega
      exact ⟨by simpa [Fpair, rdI, n1, n2] using a1, by simpa [Fpair, rdI] using a2, fun j hj hk => by simpa [Fpair, rdI] using a3 j (by simpa [Fpair, rdI] using hj) (by simpa [Fpair, rdI] using hk)⟩
    · have hz0 := hfr c (by omega)
      have hz2 : Fpair S (nI x) (nI z) 236 c = 0 := by simpa [Fpair, rdI] using hz0
      refine ⟨?_, ?_, fun j hj => ?_⟩
      · have t1 : N (nI x) = x := N_nI (by omega)
        have t2 : N (nI z) = z := N_nI (by omega)
        rcases (show c = N (S 30 34) ∨ c = N (S 30 34) + 1 by omega) with ec2 | ec2
        · simp only [nbt, Fpair, rdI, ec2]
          simp [t1, hx]
        · simp only [nbt, Fpair, rdI, ec2]
          simp [t2, hz]
      · rw [hz2]
        exact nb_of (j := 0) rfl (by omega) (by decide)
      · rw [hz2] at hj
        exact absurd hj (Nat.not_lt_zero _)
  · have hq := (h7 l hl).1
    unfold InvQ at hq ⊢
    rw [e3]
    refine ⟨by simpa [Fpair, rdI] using hq.1, fun j hj => ?_⟩
    rcases hq.2 j (by simpa [Fpair, rdI] using hj) with ⟨b1, b2⟩ | ⟨b1, b2⟩
    · exact Or.inl ⟨by simpa [Fpair, rdI] using b1, nbt_mono (by simpa [Fpair, rdI] using b2) (by omega)⟩
    · exact Or.inr ⟨by simpa [Fpair, rdI] using b1, by simpa [Fpair, rdI] using b2⟩
set_option maxHeartbeats 1000000 in
theorem CX_pair {n w nf fr : Nat} {S I J : MI} {T L M : ML} {x z : Nat} (h : CX n S T w nf fr J M I L) (hc : N (S 30 34) < 16) (hx : x < n) (hz : z < n) (hfr : ∀ c, N (S 30 34) ≤ c → S 236 c = 0) : CX n (Fpair S (nI x) (nI z)) (T) w nf fr J M (Cpair I (N (S 30 34)) (nI x) (nI z)) (L) := by
  obtain ⟨h1, h2, h3, h4, h5, h6⟩ := id h.1
  have hV := h.2.1.2.2.2.2.2.2.1
  refine CX_of h ⟨?_, ?_, ?_, ?_, ?_, fun l hl => ⟨?_, ?_, ?_⟩⟩ (Inv_pair h.2.1 hc hx hz hfr) (by simp [Fpair, Cpair, upI_ne, upL_ne, rdI, rdL, lid_eq, lid_ne, ne_lid]) (fun i9 h79 h89 => ?_)
  · simpa [CRt, Fpair, Cpair, upI_ne, upL_ne, rdI, rdL, lid_eq, lid_ne, ne_lid] using h1
  · simpa [CRk, Fpair, Cpair, upI_ne, upL_ne, rdI, rdL, lid_eq, lid_ne, ne_lid] using h2
  · simpa [CRp, Fpair, Cpair, upI_ne, upL_ne, rdI, rdL, lid_eq, lid_ne, ne_lid] using h3
  · obtain ⟨a1, a2, a3, a4, a5, a6, a7⟩ := h4
    have e9 : S 30 34 + 2 = nI (N (S 30 34) + 2) := by
      have := h.2.1.2.2.2.2.1.1.1
      generalize N (S 30 34) = q at *
      rw [this]
      exact nI_add q 2
    refine ⟨by simp [Fpair, Cpair, upI_ne, upL_ne, rdI, rdL, lid_eq, lid_ne, ne_lid, e9], by simpa [Fpair, Cpair, upI_ne, upL_ne, rdI, rdL, lid_eq, lid_ne, ne_lid] using a2, ?_, by simpa [Fpair, Cpair, upI_ne, upL_ne, rdI, rdL, lid_eq, lid_ne, ne_lid] using a4, by simpa [Fpair, Cpair, upI_ne, upL_ne, rdI, rdL, lid_eq, lid_ne, ne_lid] using a5, by simpa [Fpair, Cpair, upI_ne, upL_ne, rdI, rdL, lid_eq, lid_ne, ne_lid] using a6, by simpa [Fpair, Cpair, upI_ne, upL_ne, rdI, rdL, lid_eq, lid_ne, ne_lid] using a7⟩
    funext q
    simp [Fpair, Cpair, upI_ne, upL_ne, rdI, rdL, lid_eq, lid_ne, ne_lid, a3]
  · simpa [CRs, Fpair, Cpair, upI_ne, upL_ne, rdI, rdL, lid_eq, lid_ne, ne_lid] using h5
  · exact CRq_cong2 (h6 l hl).1 (by simp [Fpair, Cpair, upI_ne, upL_ne, rdI, rdL, lid_eq, lid_ne, ne_lid]) (fun j hj => by simp [Fpair, Cpair, upI_ne, upL_ne, rdI, rdL, lid_eq, lid_ne, ne_lid]) (fun j hj => by simp [Fpair, Cpair, upI_ne, upL_ne, rdI, rdL, lid_eq, lid_ne, ne_lid]) (fun j hj => by simp [Fpair, Cpair, upI_ne, upL_ne, rdI, rdL, lid_eq, lid_ne, ne_lid]) (by simp [Fpair, Cpair, upI_ne, upL_ne, rdI, rdL, lid_eq, lid_ne, ne_lid]) (by simp [Fpair, Cpair, upI_ne, upL_ne, rdI, rdL, lid_eq, lid_ne, ne_lid]) (by simp [Fpair, Cpair, upI_ne, upL_ne, rdI, rdL, lid_eq, lid_ne, ne_lid]) (by simp [Fpair, Cpair, upI_ne, upL_ne, rdI, rdL, lid_eq, lid_ne, ne_lid])
  · exact CRm_cong (h6 l hl).2.1 (by simp [Fpair, Cpair, upI_ne, upL_ne, rdI, rdL, lid_eq, lid_ne, ne_lid]) (by simp [Fpair, Cpair, upI_ne, upL_ne, rdI, rdL, lid_eq, lid_ne, ne_lid]) (by simp [Fpair, Cpair, upI_ne, upL_ne, rdI, rdL, lid_eq, lid_ne, ne_lid]) (by simp [Fpair, Cpair, upI_ne, upL_ne, rdI, rdL, lid_eq, lid_ne, ne_lid]) (by simp [Fpair, Cpair, upI_ne, upL_ne, rdI, rdL, lid_eq, lid_ne, ne_lid]) (by simp [Fpair, Cpair, upI_ne, upL_ne, rdI, rdL, lid_eq, lid_ne, ne_lid]) (by simp [Fpair, Cpair, upI_ne, upL_ne, rdI, rdL, lid_eq, lid_ne, ne_lid]) (by simp [Fpair, Cpair, upI_ne, upL_ne, rdI, rdL, lid_eq, lid_ne, ne_lid])
  · exact CRl_cong (h6 l hl).2.2 (by simp [Fpair, Cpair, upI_ne, upL_ne, rdI, rdL, lid_eq, lid_ne, ne_lid]) (by simp [Fpair, Cpair, upI_ne, upL_ne, rdI, rdL, lid_eq, lid_ne, ne_lid]) (by simp [Fpair, Cpair, upI_ne, upL_ne, rdI, rdL, lid_eq, lid_ne, ne_lid]) (by simp [Fpair, Cpair, upI_ne, upL_ne, rdI, rdL, lid_eq, lid_ne, ne_lid]) (by simp [Fpair, Cpair, upI_ne, upL_ne, rdI, rdL, lid_eq, lid_ne, ne_lid]) (by simp [Fpair, Cpair, upI_ne, upL_ne, rdI, rdL, lid_eq, lid_ne, ne_lid]) (by simp [Fpair, Cpair, upI_ne, upL_ne, rdI, rdL, lid_eq, lid_ne, ne_lid]) (by simp [Fpair, Cpair, upI_ne, upL_ne, rdI, rdL, lid_eq, lid_ne, ne_lid]) (by simp [Fpair, Cpair, upI_ne, upL_ne, rdI, rdL, lid_eq, lid_ne, ne_lid]) (by simp [Fpair, Cpair, upI_ne, upL_ne, rdI, rdL, lid_eq, lid_ne, ne_lid]) (by simp [Fpair, Cpair, upI_ne, upL_ne, rdI, rdL, lid_eq, lid_ne, ne_lid]) (by simp [Fpair, Cpair, upI_ne, upL_ne, rdI, rdL, lid_eq, lid_ne, ne_lid])
  · simp [Fpair, Cpair, upI_ne, upL_ne, rdI, rdL, lid_eq, lid_ne, ne_lid, ne_lid (show i9 < 1000 by omega), show i9 ≠ 1 by omega, show i9 ≠ 2 by omega, show i9 ≠ 3 by omega, show i9 ≠ 4 by omega, show i9 ≠ 5 by omega, show i9 ≠ 6 by omega, show i9 ≠ 330 by omega, show i9 ≠ 340 by omega, show i9 ≠ 341 by omega, show i9 ≠ 342 by omega, show i9 ≠ 343 by omega, show i9 ≠ 350 by omega, show i9 ≠ 351 by omega, show i9 ≠ 352 by omega, show i9 ≠ 353 by omega, show i9 ≠ 354 by omega, show i9 ≠ 355 by omega, show i9 ≠ 360 by omega, show i9 ≠ 361 by omega, show i9 ≠ 362 by omega, show i9 ≠ 363 by omega, show i9 ≠ 364 by omega]
set_option maxHeartbeats 1000000 in
theorem Inv_hadd {n : Nat} {S : MI} {c : Nat} (k t : Int32) (h : Inv n S) (hc : c < N (S 30 34)) (hm : N (S 236 c) < 6) (ht : k = 4 → nbt t (N (S 30 3))) : Inv n (Fhadd S c k t) := by
  obtain ⟨h1, h2, h3, h4, h5, h6, h7, h8⟩ := h
  refine ⟨h1, (by simpa [Fhadd, upI_ne, rdI] using h2), InvT_cong h3 (by simp [Fhadd, upI_ne, rdI]) (by simp [Fhadd, upI_ne, rdI]), InvP_cong h4 (by simp [Fhadd, upI_ne, rdI]) (by simp [Fhadd, upI_ne, rdI]) (by simp [Fhadd, upI_ne, rdI]) (by simp [Fhadd, upI_ne, rdI]) (by simp [Fhadd, upI_ne, rdI]), ?_, InvM_cong h6 (by simp [Fhadd, upI_ne, rdI]) (by simp [Fhadd, upI_ne, rdI]) (by simp [Fhadd, upI_ne, rdI]) (by simp [Fhadd, upI_ne, rdI]), fun l hl => ⟨InvQ_cong (h7 l hl).1 (by simp [Fhadd, upI_ne, rdI]) (by simp [Fhadd, upI_ne, rdI]) (by simp [Fhadd, upI_ne, rdI]) (fun j hj => by simp [Fhadd, upI_ne, rdI]) (fun j hj => by simp [Fhadd, upI_ne, rdI]), InvB_cong (h7 l hl).2.1 (by simp [Fhadd, upI_ne, rdI]) (by simp [Fhadd, upI_ne, rdI]) (by simp [Fhadd, upI_ne, rdI]) (by simp [Fhadd, upI_ne, rdI]) (by simp [Fhadd, upI_ne, rdI]) (by simp [Fhadd, upI_ne, rdI]), InvS_cong (h7 l hl).2.2 (by simp [Fhadd, upI_ne, rdI])⟩, (by simpa [Fhadd, upI_ne, rdI] using h8)⟩
  · refine ⟨by simpa [Fhadd, rdI] using h5.1, by simpa [Fhadd, rdI] using h5.2.1, fun q hq => ?_⟩
    obtain ⟨a1, a2, a3⟩ := h5.2.2 q (by simpa [Fhadd, rdI] using hq)
    by_cases e : q = c
    · subst e
      have e9 : S 236 q + 1 = nI (N (S 236 q) + 1) := nI_add1 a2.1
      have e2 : Fhadd S q k t 236 q = nI (N (S 236 q) + 1) := by simp [Fhadd, rdI, e9]
      have e3 : N (Fhadd S q k t 236 q) = N (S 236 q) + 1 := by rw [e2]; exact N_nI (by omega)
      refine ⟨by simpa [Fhadd, rdI] using a1, nb_of e2 (by omega) (by decide), fun j hj hk => ?_⟩
      rw [e3] at hj
      by_cases ej : j = N (S 236 q)
      · subst ej
        simpa [Fhadd, rdI] using ht (by simpa [Fhadd, rdI] using hk)
      · simpa [Fhadd, rdI, ej] using a3 j (by omega) (by simpa [Fhadd, rdI, ej] using hk)
    · have hb := a2.2
      refine ⟨by simpa [Fhadd, rdI] using a1, by simpa [Fhadd, rdI, e] using a2, fun j hj hk => ?_⟩
      have hj2 : j < N (S 236 q) := by simpa [Fhadd, rdI, e] using hj
      have n1 : ¬ 6 * q + j = 6 * c + N (S 236 c) := by omega
      simpa [Fhadd, rdI, n1] using a3 j hj2 (by simpa [Fhadd, rdI, n1] using hk)
set_option maxHeartbeats 1000000 in
theorem CX_hadd {n w nf fr : Nat} {S I J : MI} {T L M : ML} {c : Nat} (k t : Int32) (h : CX n S T w nf fr J M I L) (hc : c < N (S 30 34)) (hm : N (S 236 c) < 6) (ht : k = 4 → nbt t (N (S 30 3))) : CX n (Fhadd S c k t) (T) w nf fr J M (Chand I c (N (S 236 c)) k t) (L) := by
  obtain ⟨h1, h2, h3, h4, h5, h6⟩ := id h.1
  have hV := h.2.1.2.2.2.2.2.2.1
  refine CX_of h ⟨?_, ?_, ?_, ?_, ?_, fun l hl => ⟨?_, ?_, ?_⟩⟩ (Inv_hadd k t h.2.1 hc hm ht) (by simp [Fhadd, Chand, upI_ne, upL_ne, rdI, rdL, lid_eq, lid_ne, ne_lid]) (fun i9 h79 h89 => ?_)
  · simpa [CRt, Fhadd, Chand, upI_ne, upL_ne, rdI, rdL, lid_eq, lid_ne, ne_lid] using h1
  · simpa [CRk, Fhadd, Chand, upI_ne, upL_ne, rdI, rdL, lid_eq, lid_ne, ne_lid] using h2
  · simpa [CRp, Fhadd, Chand, upI_ne, upL_ne, rdI, rdL, lid_eq, lid_ne, ne_lid] using h3
  · obtain ⟨a1, a2, a3, a4, a5, a6, a7⟩ := h4
    have e9 : S 236 c + 1 = nI (N (S 236 c) + 1) := nI_add1 (h.2.1.2.2.2.2.1.2.2 c hc).2.1.1
    refine ⟨by simpa [Fhadd, Chand, upI_ne, upL_ne, rdI, rdL, lid_eq, lid_ne, ne_lid] using a1, by simp [Fhadd, Chand, upI_ne, upL_ne, rdI, rdL, lid_eq, lid_ne, ne_lid, a2], by simpa [Fhadd, Chand, upI_ne, upL_ne, rdI, rdL, lid_eq, lid_ne, ne_lid] using a3, ?_, ?_, ?_, ?_⟩ <;> funext q <;> simp [Fhadd, Chand, upI_ne, upL_ne, rdI, rdL, lid_eq, lid_ne, ne_lid, a2, a4, a5, a6, a7, e9]
  · simpa [CRs, Fhadd, Chand, upI_ne, upL_ne, rdI, rdL, lid_eq, lid_ne, ne_lid] using h5
  · exact CRq_cong2 (h6 l hl).1 (by simp [Fhadd, Chand, upI_ne, upL_ne, rdI, rdL, lid_eq, lid_ne, ne_lid]) (fun j hj => by simp [Fhadd, Chand, upI_ne, upL_ne, rdI, rdL, lid_eq, lid_ne, ne_lid]) (fun j hj => by simp [Fhadd, Chand, upI_ne, upL_ne, rdI, rdL, lid_eq, lid_ne, ne_lid]) (fun j hj => by simp [Fhadd, Chand, upI_ne, upL_ne, rdI, rdL, lid_eq, lid_ne, ne_lid]) (by simp [Fhadd, Chand, upI_ne, upL_ne, rdI, rdL, lid_eq, lid_ne, ne_lid]) (by simp [Fhadd, Chand, upI_ne, upL_ne, rdI, rdL, lid_eq, lid_ne, ne_lid]) (by simp [Fhadd, Chand, upI_ne, upL_ne, rdI, rdL, lid_eq, lid_ne, ne_lid]) (by simp [Fhadd, Chand, upI_ne, upL_ne, rdI, rdL, lid_eq, lid_ne, ne_lid])
  · exact CRm_cong (h6 l hl).2.1 (by simp [Fhadd, Chand, upI_ne, upL_ne, rdI, rdL, lid_eq, lid_ne, ne_lid]) (by simp [Fhadd, Chand, upI_ne, upL_ne, rdI, rdL, lid_eq, lid_ne, ne_lid]) (by simp [Fhadd, Chand, upI_ne, upL_ne, rdI, rdL, lid_eq, lid_ne, ne_lid]) (by simp [Fhadd, Chand, upI_ne, upL_ne, rdI, rdL, lid_eq, lid_ne, ne_lid]) (by simp [Fhadd, Chand, upI_ne, upL_ne, rdI, rdL, lid_eq, lid_ne, ne_lid]) (by simp [Fhadd, Chand, upI_ne, upL_ne, rdI, rdL, lid_eq, lid_ne, ne_lid]) (by simp [Fhadd, Chand, upI_ne, upL_ne, rdI, rdL, lid_eq, lid_ne, ne_lid]) (by simp [Fhadd, Chand, upI_ne, upL_ne, rdI, rdL, lid_eq, lid_ne, ne_lid])
  · exact CRl_cong (h6 l hl).2.2 (by simp [Fhadd, Chand, upI_ne, upL_ne, rdI, rdL, lid_eq, lid_ne, ne_lid]) (by simp [Fhadd, Chand, upI_ne, upL_ne, rdI, rdL, lid_eq, lid_ne, ne_lid]) (by simp [Fhadd, Chand, upI_ne, upL_ne, rdI, rdL, lid_eq, lid_ne, ne_lid]) (by simp [Fhadd, Chand, upI_ne, upL_ne, rdI, rdL, lid_eq, lid_ne, ne_lid]) (by simp [Fhadd, Chand, upI_ne, upL_ne, rdI, rdL, lid_eq, lid_ne, ne_lid]) (by simp [Fhadd, Chand, upI_ne, upL_ne, rdI, rdL, lid_eq, lid_ne, ne_lid]) (by simp [Fhadd, Chand, upI_ne, upL_ne, rdI, rdL, lid_eq, lid_ne, ne_lid]) (by simp [Fhadd, Chand, upI_ne, upL_ne, rdI, rdL, lid_eq, lid_ne, ne_lid]) (by simp [Fhadd, Chand, upI_ne, upL_ne, rdI, rdL, lid_eq, lid_ne, ne_lid]) (by simp [Fhadd, Chand, upI_ne, upL_ne, rdI, rdL, lid_eq, lid_ne, ne_lid]) (by simp [Fhadd, Chand, upI_ne, upL_ne, rdI, rdL, lid_eq, lid_ne, ne_lid]) (by simp [Fhadd, Chand, upI_ne, upL_ne, rdI, rdL, lid_eq, lid_ne, ne_lid])
  · simp [Fhadd, Chand, upI_ne, upL_ne, rdI, rdL, lid_eq, lid_ne, ne_lid, ne_lid (show i9 < 1000 by omega), show i9 ≠ 1 by omega, show i9 ≠ 2 by omega, show i9 ≠ 3 by omega, show i9 ≠ 4 by omega, show i9 ≠ 5 by omega, show i9 ≠ 6 by omega, show i9 ≠ 330 by omega, show i9 ≠ 340 by omega, show i9 ≠ 341 by omega, show i9 ≠ 342 by omega, show i9 ≠ 343 by omega, show i9 ≠ 350 by omega, show i9 ≠ 351 by omega, show i9 ≠ 352 by omega, show i9 ≠ 353 by omega, show i9 ≠ 354 by omega, show i9 ≠ 355 by omega, show i9 ≠ 360 by omega, show i9 ≠ 361 by omega, show i9 ≠ 362 by omega, show i9 ≠ 363 by omega, show i9 ≠ 364 by omega]
set_option maxHeartbeats 1000000 in
theorem Inv_hrem {n : Nat} {S : MI} {c p : Nat} (h : Inv n S) (hc : c < N (S 30 34)) (hp : p < N (S 236 c)) : Inv n (Fhrem S c p) := by
  obtain ⟨h1, h2, h3, h4, h5, h6, h7, h8⟩ := h
  refine ⟨h1, (by simpa [Fhrem_ne, upI_ne, rdI] using h2), InvT_cong h3 (by simp [Fhrem_ne, upI_ne, rdI]) (by simp [Fhrem_ne, upI_ne, rdI]), InvP_cong h4 (by simp [Fhrem_ne, upI_ne, rdI]) (by simp [Fhrem_ne, upI_ne, rdI]) (by simp [Fhrem_ne, upI_ne, rdI]) (by simp [Fhrem_ne, upI_ne, rdI]) (by simp [Fhrem_ne, upI_ne, rdI]), ?_, InvM_cong h6 (by simp [Fhrem_ne, upI_ne, rdI]) (by simp [Fhrem_ne, upI_ne, rdI]) (by simp [Fhrem_ne, upI_ne, rdI]) (by simp [Fhrem_ne, upI_ne, rdI]), fun l hl => ⟨InvQ_cong (h7 l hl).1 (by simp [Fhrem_ne, upI_ne, rdI]) (by simp [Fhrem_ne, upI_ne, rdI]) (by simp [Fhrem_ne, upI_ne, rdI]) (fun j hj => by simp [Fhrem_ne, upI_ne, rdI]) (fun j hj => by simp [Fhrem_ne, upI_ne, rdI]), InvB_cong (h7 l hl).2.1 (by simp [Fhrem_ne, upI_ne, rdI]) (by simp [Fhrem_ne, upI_ne, rdI]) (by simp [Fhrem_ne, upI_ne, rdI]) (by simp [Fhrem_ne, upI_ne, rdI]) (by simp [Fhrem_ne, upI_ne, rdI]) (by simp [Fhrem_ne, upI_ne, rdI]), InvS_cong (h7 l hl).2.2 (by simp [Fhrem_ne, upI_ne, rdI])⟩, (by simpa [Fhrem_ne, upI_ne, rdI] using h8)⟩
  · refine ⟨by simpa [Fhrem_ne] using h5.1, by simpa [Fhrem_ne] using h5.2.1, fun q hq => ?_⟩
    obtain ⟨a1, a2, a3⟩ := h5.2.2 q (by simpa [Fhrem_ne] using hq)
    rw [Fhrem_236]
    have hb := a2.2
    by_cases e : q = c
    · subst e
      rw [if_pos rfl]
      have hN : N (nI (N (S 236 q) - 1)) = N (S 236 q) - 1 := N_nI (by omega)
      refine ⟨by simpa [Fhrem_ne] using a1, nb_of rfl (by omega) (by decide), fun j hj hk => ?_⟩
      rw [hN] at hj
      by_cases ej : p ≤ j
      · have e1 : ∀ x, x = 237 ∨ x = 238 ∨ x = 239 → Fhrem S q p x (6 * q + j) = S x (6 * q + (j + 1)) := fun x hx => by
          unfold Fhrem
          rw [if_pos ⟨hx, by omega, by omega⟩]
          rfl
        rw [e1 237 (Or.inl rfl)] at hk
        rw [e1 238 (Or.inr (Or.inl rfl))]
        simpa [Fhrem_ne] using a3 (j + 1) (by omega) hk
      · have e1 : ∀ x, x = 237 ∨ x = 238 ∨ x = 239 → Fhrem S q p x (6 * q + j) = S x (6 * q + j) := fun x hx => by
          unfold Fhrem
          rw [if_neg (fun h9 => by omega), if_neg (fun h9 => by omega)]
        rw [e1 237 (Or.inl rfl)] at hk
        rw [e1 238 (Or.inr (Or.inl rfl))]
        simpa [Fhrem_ne] using a3 j (by omega) hk
    · rw [if_neg e]
      refine ⟨by simpa [Fhrem_ne] using a1, a2, fun j hj hk => ?_⟩
      have hb2 := (h5.2.2 c hc).2.1.2
      have e1 : ∀ x, x = 237 ∨ x = 238 ∨ x = 239 → Fhrem S c p x (6 * q + j) = S x (6 * q + j) := fun x hx => by
        unfold Fhrem
        rw [if_neg (fun h9 => by omega), if_neg (fun h9 => by omega)]
      rw [e1 237 (Or.inl rfl)] at hk
      rw [e1 238 (Or.inr (Or.inl rfl))]
      simpa [Fhrem_ne] using a3 j hj hk
def Chrem (I : MI) (c p m : Nat) : MI := upI (cpI (cpI (cpI I 362 (6 * c + p + 1) (6 * c + p) (m - p - 1)) 363 (6 * c + p + 1) (6 * c + p) (m - p - 1)) 364 (6 * c + p + 1) (6 * c + p) (m - p - 1)) 361 c (nI (m - 1))
theorem cpy_hrem {S : MI} {c p x m : Nat} {f : Nat → Int32} (hx : x = 237 ∨ x = 238 ∨ x = 239) (hm : N (S 236 c) = m) (hp : p < m) (hf : f = S x) : va_cpy f f (6 * c + p + 1) (6 * c + p) (m - p - 1) = Fhrem S c p x := by
  subst hf
  funext z
  by_cases e : 6 * c + p ≤ z ∧ z < 6 * c + p + (m - p - 1)
  · rw [pk_cpy_in e.1 e.2]
    unfold Fhrem
    rw [if_pos ⟨hx, e.1, by omega⟩]
    congr 1
    omega
  · rw [pk_cpy_out (by omega)]
    unfold Fhrem
    rw [if_neg (fun q => e ⟨q.2.1, by omega⟩), if_neg (fun q => by omega)]
set_option maxHeartbeats 1000000 in
theorem CX_hrem {n w nf fr : Nat} {S I J : MI} {T L M : ML} {c p : Nat} (h : CX n S T w nf fr J M I L) (hc : c < N (S 30 34)) (hp : p < N (S 236 c)) : CX n (Fhrem S c p) (T) w nf fr J M (Chrem I c p (N (S 236 c))) (L) := by
  obtain ⟨h1, h2, h3, h4, h5, h6⟩ := id h.1
  have hV := h.2.1.2.2.2.2.2.2.1
  refine CX_of h ⟨?_, ?_, ?_, ?_, ?_, fun l hl => ⟨?_, ?_, ?_⟩⟩ (Inv_hrem h.2.1 hc hp) (by simp [Fhrem_ne, Chrem, cpI_ne, upI_ne, upL_ne, rdI, rdL, lid_eq, lid_ne, ne_lid]) (fun i9 h79 h89 => ?_)
  · simpa [CRt, Fhrem_ne, Chrem, cpI_ne, upI_ne, upL_ne, rdI, rdL, lid_eq, lid_ne, ne_lid] using h1
  · simpa [CRk, Fhrem_ne, Chrem, cpI_ne, upI_ne, upL_ne, rdI, rdL, lid_eq, lid_ne, ne_lid] using h2
  · simpa [CRp, Fhrem_ne, Chrem, cpI_ne, upI_ne, upL_ne, rdI, rdL, lid_eq, lid_ne, ne_lid] using h3
  · obtain ⟨a1, a2, a3, a4, a5, a6, a7⟩ := h4
    refine ⟨by simpa [Fhrem_ne, Chrem, cpI_ne, upI_ne, upL_ne, rdI, rdL, lid_eq, lid_ne, ne_lid] using a1, by simpa [Fhrem_ne, Chrem, cpI_ne, upI_ne, upL_ne, rdI, rdL, lid_eq, lid_ne, ne_lid] using a2, by simpa [Fhrem_ne, Chrem, cpI_ne, upI_ne, upL_ne, rdI, rdL, lid_eq, lid_ne, ne_lid] using a3, ?_, ?_, ?_, ?_⟩
    · funext q
      rw [Fhrem_236]
      simp [Fhrem_ne, Chrem, cpI_ne, upI_ne, upL_ne, rdI, rdL, lid_eq, lid_ne, ne_lid, a4]
    · rw [← cpy_hrem (f := I 362) (Or.inl rfl) rfl hp a5]
      simp [Fhrem_ne, Chrem, cpI_ne, upI_ne, upL_ne, rdI, rdL, lid_eq, lid_ne, ne_lid, cpI_self]
    · rw [← cpy_hrem (f := I 363) (Or.inr (Or.inl rfl)) rfl hp a6]
      simp [Fhrem_ne, Chrem, cpI_ne, upI_ne, upL_ne, rdI, rdL, lid_eq, lid_ne, ne_lid, cpI_self]
    · rw [← cpy_hrem (f := I 364) (Or.inr (Or.inr rfl)) rfl hp a7]
      simp [Fhrem_ne, Chrem, cpI_ne, upI_ne, upL_ne, rdI, rdL, lid_eq, lid_ne, ne_lid, cpI_self]
  · simpa [CRs, Fhrem_ne, Chrem, cpI_ne, upI_ne, upL_ne, rdI, rdL, lid_eq, lid_ne, ne_lid] using h5
  · exact CRq_cong2 (h6 l hl).1 (by simp [Fhrem_ne, Chrem, cpI_ne, upI_ne, upL_ne, rdI, rdL, lid_eq, lid_ne, ne_lid]) (fun j hj => by simp [Fhrem_ne, Chrem, cpI_ne, upI_ne, upL_ne, rdI, rdL, lid_eq, lid_ne, ne_lid]) (fun j hj => by simp [Fhrem_ne, Chrem, cpI_ne, upI_ne, upL_ne, rdI, rdL, lid_eq, lid_ne, ne_lid]) (fun j hj => by simp [Fhrem_ne, Chrem, cpI_ne, upI_ne, upL_ne, rdI, rdL, lid_eq, lid_ne, ne_lid]) (by simp [Fhrem_ne, Chrem, cpI_ne, upI_ne, upL_ne, rdI, rdL, lid_eq, lid_ne, ne_lid]) (by simp [Fhrem_ne, Chrem, cpI_ne, upI_ne, upL_ne, rdI, rdL, lid_eq, lid_ne, ne_lid]) (by simp [Fhrem_ne, Chrem, cpI_ne, upI_ne, upL_ne, rdI, rdL, lid_eq, lid_ne, ne_lid]) (by simp [Fhrem_ne, Chrem, cpI_ne, upI_ne, upL_ne, rdI, rdL, lid_eq, lid_ne, ne_lid])
  · exact CRm_cong (h6 l hl).2.1 (by simp [Fhrem_ne, Chrem, cpI_ne, upI_ne, upL_ne, rdI, rdL, lid_eq, lid_ne, ne_lid]) (by simp [Fhrem_ne, Chrem, cpI_ne, upI_ne, upL_ne, rdI, rdL, lid_eq, lid_ne, ne_lid]) (by simp [Fhrem_ne, Chrem, cpI_ne, upI_ne, upL_ne, rdI, rdL, lid_eq, lid_ne, ne_lid]) (by simp [Fhrem_ne, Chrem, cpI_ne, upI_ne, upL_ne, rdI, rdL, lid_eq, lid_ne, ne_lid]) (by simp [Fhrem_ne, Chrem, cpI_ne, upI_ne, upL_ne, rdI, rdL, lid_eq, lid_ne, ne_lid]) (by simp [Fhrem_ne, Chrem, cpI_ne, upI_ne, upL_ne, rdI, rdL, lid_eq, lid_ne, ne_lid]) (by simp [Fhrem_ne, Chrem, cpI_ne, upI_ne, upL_ne, rdI, rdL, lid_eq, lid_ne, ne_lid]) (by simp [Fhrem_ne, Chrem, cpI_ne, upI_ne, upL_ne, rdI, rdL, lid_eq, lid_ne, ne_lid])
  · exact CRl_cong (h6 l hl).2.2 (by simp [Fhrem_ne, Chrem, cpI_ne, upI_ne, upL_ne, rdI, rdL, lid_eq, lid_ne, ne_lid]) (by simp [Fhrem_ne, Chrem, cpI_ne, upI_ne, upL_ne, rdI, rdL, lid_eq, lid_ne, ne_lid]) (by simp [Fhrem_ne, Chrem, cpI_ne, upI_ne, upL_ne, rdI, rdL, lid_eq, lid_ne, ne_lid]) (by simp [Fhrem_ne, Chrem, cpI_ne, upI_ne, upL_ne, rdI, rdL, lid_eq, lid_ne, ne_lid]) (by simp [Fhrem_ne, Chrem, cpI_ne, upI_ne, upL_ne, rdI, rdL, lid_eq, lid_ne, ne_lid]) (by simp [Fhrem_ne, Chrem, cpI_ne, upI_ne, upL_ne, rdI, rdL, lid_eq, lid_ne, ne_lid]) (by simp [Fhrem_ne, Chrem, cpI_ne, upI_ne, upL_ne, rdI, rdL, lid_eq, lid_ne, ne_lid]) (by simp [Fhrem_ne, Chrem, cpI_ne, upI_ne, upL_ne, rdI, rdL, lid_eq, lid_ne, ne_lid]) (by simp [Fhrem_ne, Chrem, cpI_ne, upI_ne, upL_ne, rdI, rdL, lid_eq, lid_ne, ne_lid]) (by simp [Fhrem_ne, Chrem, cpI_ne, upI_ne, upL_ne, rdI, rdL, lid_eq, lid_ne, ne_lid]) (by simp [Fhrem_ne, Chrem, cpI_ne, upI_ne, upL_ne, rdI, rdL, lid_eq, lid_ne, ne_lid]) (by simp [Fhrem_ne, Chrem, cpI_ne, upI_ne, upL_ne, rdI, rdL, lid_eq, lid_ne, ne_lid])
  · simp [Fhrem_ne, Chrem, cpI_ne, upI_ne, upL_ne, rdI, rdL, lid_eq, lid_ne, ne_lid, ne_lid (show i9 < 1000 by omega), show i9 ≠ 1 by omega, show i9 ≠ 2 by omega, show i9 ≠ 3 by omega, show i9 ≠ 4 by omega, show i9 ≠ 5 by omega, show i9 ≠ 6 by omega, show i9 ≠ 330 by omega, show i9 ≠ 340 by omega, show i9 ≠ 341 by omega, show i9 ≠ 342 by omega, show i9 ≠ 343 by omega, show i9 ≠ 350 by omega, show i9 ≠ 351 by omega, show i9 ≠ 352 by omega, show i9 ≠ 353 by omega, show i9 ≠ 354 by omega, show i9 ≠ 355 by omega, show i9 ≠ 360 by omega, show i9 ≠ 361 by omega, show i9 ≠ 362 by omega, show i9 ≠ 363 by omega, show i9 ≠ 364 by omega]
set_option maxHeartbeats 1000000 in
theorem CX_clk {n w nf fr : Nat} {S I J : MI} {T L M : ML} (c : Int64) (h : CX n S T w nf fr J M I L)  : CX n (S) (upL T 30 2 c) w nf fr J M (I) (upL L 2 2 c) := by
  obtain ⟨h1, h2, h3, h4, h5, h6⟩ := id h.1
  have hV := h.2.1.2.2.2.2.2.2.1
  refine CX_of h ⟨?_, ?_, ?_, ?_, ?_, fun l hl => ⟨?_, ?_, ?_⟩⟩ (h.2.1) (by simp [upI_ne, upL_ne, rdI, rdL, lid_eq, lid_ne, ne_lid]) (fun i9 h79 h89 => ?_)
  · simpa [CRt, upI_ne, upL_ne, rdI, rdL, lid_eq, lid_ne, ne_lid] using h1
  · simpa [CRk, upI_ne, upL_ne, rdI, rdL, lid_eq, lid_ne, ne_lid] using h2
  · simpa [CRp, upI_ne, upL_ne, rdI, rdL, lid_eq, lid_ne, ne_lid] using h3
  · simpa [CRc, upI_ne, upL_ne, rdI, rdL, lid_eq, lid_ne, ne_lid] using h4
  · obtain ⟨a1, a2, a3⟩ := h5
    exact ⟨by simp [upI_ne, upL_ne, rdI, rdL, lid_eq, lid_ne, ne_lid], a2, a3⟩
  · exact CRq_cong2 (h6 l hl).1 (by simp [upI_ne, upL_ne, rdI, rdL, lid_eq, lid_ne, ne_lid]) (fun j hj => by simp [upI_ne, upL_ne, rdI, rdL, lid_eq, lid_ne, ne_lid]) (fun j hj => by simp [upI_ne, upL_ne, rdI, rdL, lid_eq, lid_ne, ne_lid]) (fun j hj => by simp [upI_ne, upL_ne, rdI, rdL, lid_eq, lid_ne, ne_lid]) (by simp [upI_ne, upL_ne, rdI, rdL, lid_eq, lid_ne, ne_lid]) (by simp [upI_ne, upL_ne, rdI, rdL, lid_eq, lid_ne, ne_lid]) (by simp [upI_ne, upL_ne, rdI, rdL, lid_eq, lid_ne, ne_lid]) (by simp [upI_ne, upL_ne, rdI, rdL, lid_eq, lid_ne, ne_lid])
  · exact CRm_cong (h6 l hl).2.1 (by simp [upI_ne, upL_ne, rdI, rdL, lid_eq, lid_ne, ne_lid]) (by simp [upI_ne, upL_ne, rdI, rdL, lid_eq, lid_ne, ne_lid]) (by simp [upI_ne, upL_ne, rdI, rdL, lid_eq, lid_ne, ne_lid]) (by simp [upI_ne, upL_ne, rdI, rdL, lid_eq, lid_ne, ne_lid]) (by simp [upI_ne, upL_ne, rdI, rdL, lid_eq, lid_ne, ne_lid]) (by simp [upI_ne, upL_ne, rdI, rdL, lid_eq, lid_ne, ne_lid]) (by simp [upI_ne, upL_ne, rdI, rdL, lid_eq, lid_ne, ne_lid]) (by simp [upI_ne, upL_ne, rdI, rdL, lid_eq, lid_ne, ne_lid])
  · exact CRl_cong (h6 l hl).2.2 (by simp [upI_ne, upL_ne, rdI, rdL, lid_eq, lid_ne, ne_lid]) (by simp [upI_ne, upL_ne, rdI, rdL, lid_eq, lid_ne, ne_lid]) (by simp [upI_ne, upL_ne, rdI, rdL, lid_eq, lid_ne, ne_lid]) (by simp [upI_ne, upL_ne, rdI, rdL, lid_eq, lid_ne, ne_lid]) (by simp [upI_ne, upL_ne, rdI, rdL, lid_eq, lid_ne, ne_lid]) (by simp [upI_ne, upL_ne, rdI, rdL, lid_eq, lid_ne, ne_lid]) (by simp [upI_ne, upL_ne, rdI, rdL, lid_eq, lid_ne, ne_lid]) (by simp [upI_ne, upL_ne, rdI, rdL, lid_eq, lid_ne, ne_lid]) (by simp [upI_ne, upL_ne, rdI, rdL, lid_eq, lid_ne, ne_lid]) (by simp [upI_ne, upL_ne, rdI, rdL, lid_eq, lid_ne, ne_lid]) (by simp [upI_ne, upL_ne, rdI, rdL, lid_eq, lid_ne, ne_lid]) (by simp [upI_ne, upL_ne, rdI, rdL, lid_eq, lid_ne, ne_lid])
  · simp [upI_ne, upL_ne, rdI, rdL, lid_eq, lid_ne, ne_lid, ne_lid (show i9 < 1000 by omega), show i9 ≠ 1 by omega, show i9 ≠ 2 by omega, show i9 ≠ 3 by omega, show i9 ≠ 4 by omega, show i9 ≠ 5 by omega, show i9 ≠ 6 by omega, show i9 ≠ 330 by omega, show i9 ≠ 340 by omega, show i9 ≠ 341 by omega, show i9 ≠ 342 by omega, show i9 ≠ 343 by omega, show i9 ≠ 350 by omega, show i9 ≠ 351 by omega, show i9 ≠ 352 by omega, show i9 ≠ 353 by omega, show i9 ≠ 354 by omega, show i9 ≠ 355 by omega, show i9 ≠ 360 by omega, show i9 ≠ 361 by omega, show i9 ≠ 362 by omega, show i9 ≠ 363 by omega, show i9 ≠ 364 by omega]
