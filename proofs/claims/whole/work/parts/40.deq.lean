/-! ===== the first of a queue leaves it ===== -/
def Fdeq (S : MI) (i : Nat) : MI := fun x z => if (x = 211 ∨ x = 212 ∨ x = 213) ∧ 24 * i ≤ z ∧ z + 1 < 24 * i + N (S 209 i) then S x (z + 1) else if x = 209 ∧ z = i then nI (N (S 209 i) - 1) else S x z
theorem Fdeq_ne {S : MI} {i x : Nat} (h1 : x ≠ 211) (h2 : x ≠ 212) (h3 : x ≠ 213) (h4 : x ≠ 209) : Fdeq S i x = S x := by
  funext z
  simp [Fdeq, h1, h2, h3, h4]
theorem Fdeq_in {S : MI} {i x j : Nat} (hx : x = 211 ∨ x = 212 ∨ x = 213) (hj : j + 1 < N (S 209 i)) : Fdeq S i x (24 * i + j) = S x (24 * i + (j + 1)) := by
  unfold Fdeq
  rw [if_pos ⟨hx, by omega, by omega⟩]
  rfl
theorem Fdeq_209 {S : MI} {i z : Nat} : Fdeq S i 209 z = if z = i then nI (N (S 209 i) - 1) else S 209 z := by
  unfold Fdeq
  rw [if_neg (fun q => by rcases q.1 with h | h | h <;> omega)]
  simp
theorem Fdeq_out {S : MI} {i l x j : Nat} (hx : x = 211 ∨ x = 212 ∨ x = 213) (hl : l ≠ i) (hj : j < 24) (hq : N (S 209 i) ≤ 24) : Fdeq S i x (24 * l + j) = S x (24 * l + j) := by
  unfold Fdeq
  rw [if_neg (fun q => by omega), if_neg (fun q => by omega)]
set_option maxHeartbeats 1000000 in
theorem Inv_deq {n : Nat} {S : MI} {i : Nat} (h : Inv n S) (hi : i < n) : Inv n (Fdeq S i) := by
  obtain ⟨h1, h2, h3, h4, h5, h6, h7, h8⟩ := h
  refine ⟨h1, (by simpa [Fdeq_ne, upI_ne, rdI] using h2), InvT_cong h3 (by simp [Fdeq_ne, upI_ne, rdI]) (by simp [Fdeq_ne, upI_ne, rdI]), InvP_cong h4 (by simp [Fdeq_ne, upI_ne, rdI]) (by simp [Fdeq_ne, upI_ne, rdI]) (by simp [Fdeq_ne, upI_ne, rdI]) (by simp [Fdeq_ne, upI_ne, rdI]) (by simp [Fdeq_ne, upI_ne, rdI]), InvC_cong h5 (by simp [Fdeq_ne, upI_ne, rdI]) (by simp [Fdeq_ne, upI_ne, rdI]) (by simp [Fdeq_ne, upI_ne, rdI]) (by simp [Fdeq_ne, upI_ne, rdI]) (by simp [Fdeq_ne, upI_ne, rdI]) (by simp [Fdeq_ne, upI_ne, rdI]), InvM_cong h6 (by simp [Fdeq_ne, upI_ne, rdI]) (by simp [Fdeq_ne, upI_ne, rdI]) (by simp [Fdeq_ne, upI_ne, rdI]) (by simp [Fdeq_ne, upI_ne, rdI]), fun l hl => ⟨?_, InvB_cong (h7 l hl).2.1 (by simp [Fdeq_ne, upI_ne, rdI]) (by simp [Fdeq_ne, upI_ne, rdI]) (by simp [Fdeq_ne, upI_ne, rdI]) (by simp [Fdeq_ne, upI_ne, rdI]) (by simp [Fdeq_ne, upI_ne, rdI]) (by simp [Fdeq_ne, upI_ne, rdI]), InvS_cong (h7 l hl).2.2 (by simp [Fdeq_ne, upI_ne, rdI])⟩, (by simpa [Fdeq_ne, upI_ne, rdI] using h8)⟩
  · have hq := (h7 l hl).1
    have hq24 := (h7 i hi).1.1.2
    unfold InvQ at hq ⊢
    rw [Fdeq_209]
    by_cases e : l = i
    · subst e
      rw [if_pos rfl]
      have hN : N (nI (N (S 209 l) - 1)) = N (S 209 l) - 1 := N_nI (by omega)
      refine ⟨nb_of rfl (by omega) (by decide), fun j hj => ?_⟩
      rw [hN] at hj
      rw [Fdeq_in (Or.inl rfl) (by omega), Fdeq_in (Or.inr (Or.inl rfl)) (by omega)]
      simpa [Fdeq_ne] using hq.2 (j + 1) (by omega)
    · rw [if_neg e]
      refine ⟨hq.1, fun j hj => ?_⟩
      have := hq.1.2
      rw [Fdeq_out (Or.inl rfl) e (by omega) hq24, Fdeq_out (Or.inr (Or.inl rfl)) e (by omega) hq24]
      simpa [Fdeq_ne] using hq.2 j hj
set_option maxHeartbeats 1000000 in
theorem CX_deq {n w nf fr : Nat} {S I J : MI} {T L M : ML} {i f : Nat} (h : CX n S T w nf fr J M I L) (hi : i < n) (hf : f < 24) (hfe : I (lid i 1) 3 = nI f) (hq : 0 < N (S 209 i)) : CX n (Fdeq S i) (T) w nf fr J M (Cqdrop I i f) (L) := by
  obtain ⟨h1, h2, h3, h4, h5, h6⟩ := id h.1
  have hV := h.2.1.2.2.2.2.2.2.1
  refine CX_of h ⟨?_, ?_, ?_, ?_, ?_, fun l hl => ⟨?_, ?_, ?_⟩⟩ (Inv_deq h.2.1 hi) (by simp [Fdeq_ne, Cqdrop, upI_ne, upL_ne, rdI, rdL, lid_eq, lid_ne, ne_lid]) (fun i9 h79 h89 => ?_)
  · simpa [CRt, Fdeq_ne, Cqdrop, upI_ne, upL_ne, rdI, rdL, lid_eq, lid_ne, ne_lid] using h1
  · simpa [CRk, Fdeq_ne, Cqdrop, upI_ne, upL_ne, rdI, rdL, lid_eq, lid_ne, ne_lid] using h2
  · simpa [CRp, Fdeq_ne, Cqdrop, upI_ne, upL_ne, rdI, rdL, lid_eq, lid_ne, ne_lid] using h3
  · simpa [CRc, Fdeq_ne, Cqdrop, upI_ne, upL_ne, rdI, rdL, lid_eq, lid_ne, ne_lid] using h4
  · simpa [CRs, Fdeq_ne, Cqdrop, upI_ne, upL_ne, rdI, rdL, lid_eq, lid_ne, ne_lid] using h5
  · have hq0 := (h6 l hl).1
    have hq24 := (hV i hi).1.1.2
    unfold CRq at hq0 ⊢
    rw [Fdeq_209]
    by_cases e : l = i
    · subst e
      rw [if_pos rfl]
      obtain ⟨q1, f', q2, q3, q4⟩ := hq0
      have ef : f' = f := (nI_eq (by omega) (by omega)).mp (q3.symm.trans hfe)
      subst ef
      have hN : N (nI (N (S 209 l) - 1)) = N (S 209 l) - 1 := N_nI (by omega)
      have e1 : S 209 l - 1 = nI (N (S 209 l) - 1) := by
        obtain ⟨z, hz⟩ : ∃ z, N (S 209 l) = z + 1 := ⟨N (S 209 l) - 1, by omega⟩
        have hz9 := (hV l hl).1.1.1
        rw [hz] at hz9
        rw [hz, Nat.add_sub_cancel, hz9]
        exact nI_sub1 z
      refine ⟨by simp [Fdeq_ne, Cqdrop, upI_ne, upL_ne, rdI, rdL, lid_eq, lid_ne, ne_lid, q1, e1], (f' + 1) % 24, Nat.mod_lt _ (by decide), by simp [Fdeq_ne, Cqdrop, upI_ne, upL_ne, rdI, rdL, lid_eq, lid_ne, ne_lid], fun j hj => ?_⟩
      rw [hN] at hj
      have em : ((f' + 1) % 24 + j) % 24 = (f' + (j + 1)) % 24 := by omega
      rw [em, Fdeq_in (Or.inl rfl) (by omega), Fdeq_in (Or.inr (Or.inl rfl)) (by omega), Fdeq_in (Or.inr (Or.inr rfl)) (by omega)]
      simpa [Fdeq_ne, Cqdrop, upI_ne, upL_ne, rdI, rdL, lid_eq, lid_ne, ne_lid] using q4 (j + 1) (by omega)
    · rw [if_neg e]
      obtain ⟨q1, f', q2, q3, q4⟩ := hq0
      refine ⟨by simpa [Fdeq_ne, Cqdrop, upI_ne, upL_ne, rdI, rdL, lid_eq, lid_ne, ne_lid, e] using q1, f', q2, by simpa [Fdeq_ne, Cqdrop, upI_ne, upL_ne, rdI, rdL, lid_eq, lid_ne, ne_lid, e] using q3, fun j hj => ?_⟩
      have := (hV l hl).1.1.2
      rw [Fdeq_out (Or.inl rfl) e (by omega) hq24, Fdeq_out (Or.inr (Or.inl rfl)) e (by omega) hq24, Fdeq_out (Or.inr (Or.inr rfl)) e (by omega) hq24]
      simpa [Fdeq_ne, Cqdrop, upI_ne, upL_ne, rdI, rdL, lid_eq, lid_ne, ne_lid, e] using q4 j hj
  · exact CRm_cong (h6 l hl).2.1 (by simp [Fdeq_ne, Cqdrop, upI_ne, upL_ne, rdI, rdL, lid_eq, lid_ne, ne_lid]) (by simp [Fdeq_ne, Cqdrop, upI_ne, upL_ne, rdI, rdL, lid_eq, lid_ne, ne_lid]) (by simp [Fdeq_ne, Cqdrop, upI_ne, upL_ne, rdI, rdL, lid_eq, lid_ne, ne_lid]) (by simp [Fdeq_ne, Cqdrop, upI_ne, upL_ne, rdI, rdL, lid_eq, lid_ne, ne_lid]) (by simp [Fdeq_ne, Cqdrop, upI_ne, upL_ne, rdI, rdL, lid_eq, lid_ne, ne_lid]) (by simp [Fdeq_ne, Cqdrop, upI_ne, upL_ne, rdI, rdL, lid_eq, lid_ne, ne_lid]) (by simp [Fdeq_ne, Cqdrop, upI_ne, upL_ne, rdI, rdL, lid_eq, lid_ne, ne_lid]) (by simp [Fdeq_ne, Cqdrop, upI_ne, upL_ne, rdI, rdL, lid_eq, lid_ne, ne_lid])
  · exact CRl_cong (h6 l hl).2.2 (by simp [Fdeq_ne, Cqdrop, upI_ne, upL_ne, rdI, rdL, lid_eq, lid_ne, ne_lid]) (by simp [Fdeq_ne, Cqdrop, upI_ne, upL_ne, rdI, rdL, lid_eq, lid_ne, ne_lid]) (by simp [Fdeq_ne, Cqdrop, upI_ne, upL_ne, rdI, rdL, lid_eq, lid_ne, ne_lid]) (by simp [Fdeq_ne, Cqdrop, upI_ne, upL_ne, rdI, rdL, lid_eq, lid_ne, ne_lid]) (by simp [Fdeq_ne, Cqdrop, upI_ne, upL_ne, rdI, rdL, lid_eq, lid_ne, ne_lid]) (by simp [Fdeq_ne, Cqdrop, upI_ne, upL_ne, rdI, rdL, lid_eq, lid_ne, ne_lid]) (by simp [Fdeq_ne, Cqdrop, upI_ne, upL_ne, rdI, rdL, lid_eq, lid_ne, ne_lid]) (by simp [Fdeq_ne, Cqdrop, upI_ne, upL_ne, rdI, rdL, lid_eq, lid_ne, ne_lid]) (by simp [Fdeq_ne, Cqdrop, upI_ne, upL_ne, rdI, rdL, lid_eq, lid_ne, ne_lid]) (by simp [Fdeq_ne, Cqdrop, upI_ne, upL_ne, rdI, rdL, lid_eq, lid_ne, ne_lid]) (by simp [Fdeq_ne, Cqdrop, upI_ne, upL_ne, rdI, rdL, lid_eq, lid_ne, ne_lid]) (by simp [Fdeq_ne, Cqdrop, upI_ne, upL_ne, rdI, rdL, lid_eq, lid_ne, ne_lid])
  · simp [Fdeq_ne, Cqdrop, upI_ne, upL_ne, rdI, rdL, lid_eq, lid_ne, ne_lid, ne_lid (show i9 < 1000 by omega), show i9 ≠ 1 by omega, show i9 ≠ 2 by omega, show i9 ≠ 3 by omega, show i9 ≠ 4 by omega, show i9 ≠ 5 by omega, show i9 ≠ 6 by omega, show i9 ≠ 330 by omega, show i9 ≠ 340 by omega, show i9 ≠ 341 by omega, show i9 ≠ 342 by omega, show i9 ≠ 343 by omega, show i9 ≠ 350 by omega, show i9 ≠ 351 by omega, show i9 ≠ 352 by omega, show i9 ≠ 353 by omega, show i9 ≠ 354 by omega, show i9 ≠ 355 by omega, show i9 ≠ 360 by omega, show i9 ≠ 361 by omega, show i9 ≠ 362 by omega, show i9 ≠ 363 by omega, show i9 ≠ 364 by omega]
