/-! ===== steps of the memory S that keep what is always so, and the class's cells beside it ===== -/
def tr (S : MI) : Nat := N (S 30 41)
theorem oth_b {i : Nat} (h : oth i) : 7 ≤ i ∧ i < 300 := by
  unfold oth at h
  omega
theorem CX_of {n w nf fr : Nat} {S S' I I' J : MI} {T T' L L' M : ML} (h : CX n S T w nf fr J M I L) (hC : CR n S' T' I' L') (hV : Inv n S') (h1 : I' 1 = I 1) (ho : ∀ i, 7 ≤ i → i < 300 → I' i = I i ∧ L' i = L i) : CX n S' T' w nf fr J M I' L' := by
  obtain ⟨-, -, h3, h4⟩ := h
  refine ⟨hC, hV, by rw [h1]; exact h3, fun i hi => ?_, h4.2⟩
  have hb := oth_b hi
  obtain ⟨a1, a2⟩ := ho i hb.1 hb.2
  rw [a1, a2]
  exact h4.1 i hi
theorem InvT_cong {S S' : MI} (h : InvT S) (h1 : S' 30 3 = S 30 3) (h2 : S' 204 = S 204) : InvT S' := by
  unfold InvT at h ⊢
  rw [h1, h2]
  exact h
theorem InvP_cong {n : Nat} {S S' : MI} (h : InvP n S) (h1 : S' 30 3 = S 30 3) (h2 : S' 30 27 = S 30 27) (h3 : S' 228 = S 228) (h4 : S' 232 = S 232) (h5 : S' 233 = S 233) : InvP n S' := by
  unfold InvP at h ⊢
  rw [h1, h2, h3, h4, h5]
  exact h
theorem InvC_cong {n : Nat} {S S' : MI} (h : InvC n S) (h1 : S' 30 3 = S 30 3) (h2 : S' 30 34 = S 30 34) (h3 : S' 235 = S 235) (h4 : S' 236 = S 236) (h5 : S' 237 = S 237) (h6 : S' 238 = S 238) : InvC n S' := by
  unfold InvC at h ⊢
  rw [h1, h2, h3, h4, h5, h6]
  exact h
theorem InvM_cong {n : Nat} {S S' : MI} (h : InvM n S) (h1 : S' 30 3 = S 30 3) (h2 : S' 30 23 = S 30 23) (h3 : S' 224 = S 224) (h4 : S' 226 = S 226) : InvM n S' := by
  unfold InvM at h ⊢
  rw [h1, h2, h3, h4]
  exact h
theorem InvQ_cong {S S' : MI} {l : Nat} (h : InvQ S l) (h1 : S' 30 3 = S 30 3) (h2 : S' 30 34 = S 30 34) (h3 : S' 209 l = S 209 l) (h4 : ∀ i, i < N (S 209 l) → S' 211 (24 * l + i) = S 211 (24 * l + i)) (h5 : ∀ i, i < N (S 209 l) → S' 212 (24 * l + i) = S 212 (24 * l + i)) : InvQ S' l := by
  unfold InvQ at h ⊢
  rw [h1, h2, h3]
  refine ⟨h.1, fun i hi => ?_⟩
  rw [h4 i hi, h5 i hi]
  exact h.2 i hi
theorem InvB_cong {S S' : MI} {l : Nat} (h : InvB S l) (h1 : S' 30 3 = S 30 3) (h2 : S' 30 27 = S 30 27) (h3 : S' 214 l = S 214 l) (h4 : S' 215 l = S 215 l) (h5 : S' 216 l = S 216 l) (h6 : S' 217 l = S 217 l) : InvB S' l := by
  unfold InvB at h ⊢
  rw [h1, h2, h3, h4, h5, h6]
  exact h
theorem InvS_cong {S S' : MI} {l : Nat} (h : InvS S l) (h1 : S' 208 l = S 208 l) : InvS S' l := by
  unfold InvS at h ⊢
  rw [h1]
  exact h
theorem Inv_tr {n : Nat} {S : MI} (h : Inv n S) : S 30 41 = nI (tr S) := h.2.2.2.2.2.2.2
theorem Inv_log {n : Nat} {S : MI} (t k v : Int32) (h : Inv n S) (hb : tr S + 1 < 2 ^ 31) : Inv n (Flog S t k v) ∧ tr (Flog S t k v) = tr S + 1 := by
  obtain ⟨h1, h2, h3, h4, h5, h6, h7, h8⟩ := h
  have e : Flog S t k v 30 41 = nI (tr S + 1) := by simp [Flog, Rlog, rdI, tr]
  have et : tr (Flog S t k v) = tr S + 1 := by
    unfold tr
    rw [e]
    exact N_nI hb
  refine ⟨⟨h1, by simp [Flog, Rlog, rdI, h2], InvT_cong h3 (by simp [Flog, Rlog, rdI]) (by simp [Flog, Rlog, upI_ne]), InvP_cong h4 (by simp [Flog, Rlog, rdI]) (by simp [Flog, Rlog, rdI]) (by simp [Flog, Rlog, upI_ne]) (by simp [Flog, Rlog, upI_ne]) (by simp [Flog, Rlog, upI_ne]), InvC_cong h5 (by simp [Flog, Rlog, rdI]) (by simp [Flog, Rlog, rdI]) (by simp [Flog, Rlog, upI_ne]) (by simp [Flog, Rlog, upI_ne]) (by simp [Flog, Rlog, upI_ne]) (by simp [Flog, Rlog, upI_ne]), InvM_cong h6 (by simp [Flog, Rlog, rdI]) (by simp [Flog, Rlog, rdI]) (by simp [Flog, Rlog, upI_ne]) (by simp [Flog, Rlog, upI_ne]), fun l hl => ⟨InvQ_cong (h7 l hl).1 (by simp [Flog, Rlog, rdI]) (by simp [Flog, Rlog, rdI]) (by simp [Flog, Rlog, rdI]) (fun i _ => by simp [Flog, Rlog, rdI]) (fun i _ => by simp [Flog, Rlog, rdI]), InvB_cong (h7 l hl).2.1 (by simp [Flog, Rlog, rdI]) (by simp [Flog, Rlog, rdI]) (by simp [Flog, Rlog, rdI]) (by simp [Flog, Rlog, rdI]) (by simp [Flog, Rlog, rdI]) (by simp [Flog, Rlog, rdI]), InvS_cong (h7 l hl).2.2 (by simp [Flog, Rlog, rdI])⟩, ?_⟩, et⟩
  rw [e, N_nI hb]
theorem CX_log {n w nf fr : Nat} {S I J : MI} {T L M : ML} (t k v : Int32) (h : CX n S T w nf fr J M I L) (hb : tr S + 1 < 2 ^ 31) : CX n (Flog S t k v) T w nf fr J M (Clog I (tr S) t k v) L := by
  refine CX_of h (CR_log t k v h.1 (Inv_tr h.2.1) (by omega)) (Inv_log t k v h.2.1 hb).1 (by simp [Clog, upI_ne]) (fun i h7 h8 => ?_)
  simp [Clog, upI_ne, show i ≠ 3 by omega, show i ≠ 330 by omega]
theorem CX_cnt {n w nf fr : Nat} {S I J : MI} {T L M : ML} (h : CX n S T w nf fr J M I L) : I 3 1 = nI (tr S) := h.1.1.1.trans (Inv_tr h.2.1)
/-- the state of a loop -/
theorem Inv_st {n : Nat} {S : MI} {i : Nat} {s : Int32} (h : Inv n S) (hs : s = 1 ∨ s = 2 ∨ s = 3 ∨ s = 4 ∨ s = 5) : Inv n (upI S 208 i s) := by
  obtain ⟨h1, h2, h3, h4, h5, h6, h7, h8⟩ := h
  refine ⟨h1, by simp [rdI, h2], InvT_cong h3 (by simp [rdI]) (by simp [upI_ne]), InvP_cong h4 (by simp [rdI]) (by simp [rdI]) (by simp [upI_ne]) (by simp [upI_ne]) (by simp [upI_ne]), InvC_cong h5 (by simp [rdI]) (by simp [rdI]) (by simp [upI_ne]) (by simp [upI_ne]) (by simp [upI_ne]) (by simp [upI_ne]), InvM_cong h6 (by simp [rdI]) (by simp [rdI]) (by simp [upI_ne]) (by simp [upI_ne]), fun l hl => ⟨InvQ_cong (h7 l hl).1 (by simp [rdI]) (by simp [rdI]) (by simp [rdI]) (fun i _ => by simp [rdI]) (fun i _ => by simp [rdI]), InvB_cong (h7 l hl).2.1 (by simp [rdI]) (by simp [rdI]) (by simp [rdI]) (by simp [rdI]) (by simp [rdI]) (by simp [rdI]), ?_⟩, by simp [rdI]; exact h8⟩
  unfold InvS
  by_cases e : l = i
  · subst e
    simpa [rdI] using hs
  · have := (h7 l hl).2.2
    unfold InvS at this
    simpa [rdI, e] using this
theorem CX_st {n w nf fr : Nat} {S I J : MI} {T L M : ML} {i : Nat} {s : Int32} (h : CX n S T w nf fr J M I L) (hs : s = 1 ∨ s = 2 ∨ s = 3 ∨ s = 4 ∨ s = 5) (hq : 3 ≤ s → (I (lid i 0) 7).toInt64 = T 218 i ∧ (I (lid i 0) 8).toInt64 = T 219 i ∧ L (lid i 0) 9 = T 220 i ∧ L (lid i 0) 10 = T 221 i) : CX n (upI S 208 i s) T w nf fr J M (upI I (lid i 0) 2 s) L := by
  obtain ⟨h1, h2, h3, h4, h5, h6⟩ := id h.1
  refine CX_of h ⟨?_, ?_, ?_, ?_, ?_, fun l hl => ⟨?_, ?_, ?_⟩⟩ (Inv_st h.2.1 hs) (by simp [upI_ne, ne_lid]) (fun i h7 h8 => ?_)
  · simpa [CRt, upI_ne, rdI, ne_lid] using h1
  · simpa [CRk, upI_ne, rdI, ne_lid] using h2
  · simpa [CRp, upI_ne, rdI, ne_lid] using h3
  · simpa [CRc, upI_ne, rdI, ne_lid] using h4
  · simpa [CRs, upI_ne, rdI, ne_lid] using h5
  · exact CRq_cong (h6 l hl).1 (by simp [rdI]) (by simp [upI_ne]) (by simp [upI_ne]) (by simp [upI_ne]) (by simp [upI_ne, lid_eq]) (by simp [upI_ne, lid_eq]) (by simp [upI_ne, lid_eq]) (by simp [upI_ne, lid_eq])
  · exact CRm_cong (h6 l hl).2.1 (by simp [rdI]) (by simp [upI_ne]) (by simp [upI_ne]) rfl (by simp [upI_ne, lid_eq]) (by simp [upI_ne, lid_eq]) (by simp [upI_ne, lid_eq]) rfl
  · by_cases e : l = i
    · subst e
      have := (h6 l hl).2.2
      unfold CRl at this ⊢
      exact ⟨by simp [rdI], by simpa [rdI] using this.2.1, by simpa [rdI] using this.2.2.1, by simpa [rdI] using this.2.2.2.1, fun h3 => by simpa [rdI] using hq (by simpa [rdI] using h3)⟩
    · exact CRl_cong (h6 l hl).2.2 (by simp [rdI, e]) (by simp [rdI]) (by simp [rdI]) (by simp [rdI]) (by simp [rdI]) (by simp [rdI]) rfl rfl rfl rfl (by simp [upI_ne, lid_eq, e]) rfl
  · simp [upI_ne, ne_lid (show i < 1000 by omega)]
theorem CX_bec {n w nf fr : Nat} {S I J : MI} {T L M : ML} {i : Nat} {s : Int32} (h : CX n S T w nf fr J M I L) (hb : tr S + 1 < 2 ^ 31) (hs : s = 1 ∨ s = 2 ∨ s = 3 ∨ s = 4 ∨ s = 5) (hq : 3 ≤ s → (I (lid i 0) 7).toInt64 = T 218 i ∧ (I (lid i 0) 8).toInt64 = T 219 i ∧ L (lid i 0) 9 = T 220 i ∧ L (lid i 0) 10 = T 221 i) : CX n (Fbec S i s) T w nf fr J M (Cbec I (tr S) i s) L ∧ tr (Fbec S i s) = tr S + 1 := by
  have h1 := CX_st (i := i) h hs hq
  have e : tr (upI S 208 i s) = tr S := by simp [tr, rdI]
  have h2 := CX_log (nI i) 7 s h1 (by rw [e]; exact hb)
  rw [e] at h2
  exact ⟨h2, by unfold Fbec; rw [(Inv_log _ _ _ h1.2.1 (by rw [e]; exact hb)).2, e]⟩
