/-! ===== the class's cells beside the reference's memory ===== -/
def CRt (S I : MI) : Prop := I 3 1 = S 30 41 ∧ ∀ i, i < 300 → I 330 (i * 3) = S 242 i ∧ I 330 (i * 3 + 1) = S 243 i ∧ I 330 (i * 3 + 2) = S 244 i
def CRk (S I : MI) : Prop := I 4 4 = S 30 3 ∧ I 340 = S 204 ∧ I 341 = S 205 ∧ I 342 = S 206 ∧ I 343 = S 207
def CRp (S I : MI) : Prop := I 5 6 = S 30 27 ∧ I 350 = S 228 ∧ I 351 = S 229 ∧ I 352 = S 230 ∧ (∀ p, S 229 p = 0 → I 353 p = S 231 p) ∧ I 354 = S 232 ∧ I 355 = S 233
def CRc (S I : MI) : Prop := I 6 5 = S 30 34 ∧ I 6 6 = S 30 40 ∧ I 360 = S 235 ∧ I 361 = S 236 ∧ I 362 = S 237 ∧ I 363 = S 238 ∧ I 364 = S 239
def CRs (S : MI) (T : ML) (I : MI) (L : ML) : Prop := L 2 2 = T 30 2 ∧ I 2 3 = S 30 22 ∧ I 2 4 = S 30 23
def CRq (S I : MI) (l : Nat) : Prop := I (lid l 1) 4 = S 209 l ∧ ∃ f, f < 24 ∧ I (lid l 1) 3 = nI f ∧ ∀ i, i < N (S 209 l) → I (lid l 3) ((f + i) % 24) = S 211 (24 * l + i) ∧ I (lid l 4) ((f + i) % 24) = S 212 (24 * l + i) ∧ I (lid l 5) ((f + i) % 24) = S 213 (24 * l + i)
def CRm (S : MI) (T : ML) (I : MI) (L : ML) (l : Nat) : Prop := I (lid l 2) 3 = nI (Fcnt S l (N (S 30 23))) ∧ Fcnt S l (N (S 30 23)) ≤ 24 ∧
  (∀ k, k < Fcnt S l (N (S 30 23)) → nbt (I (lid l 6) k) (N (S 30 23)) ∧ S 226 (N (I (lid l 6) k)) = nI l ∧ I (lid l 7) k = S 224 (N (I (lid l 6) k)) ∧ L (lid l 8) k = T 225 (N (I (lid l 6) k))) ∧
  (∀ k k', k < Fcnt S l (N (S 30 23)) → k' < Fcnt S l (N (S 30 23)) → I (lid l 6) k = I (lid l 6) k' → k = k') ∧
  (∀ t, t < N (S 30 23) → S 226 t = nI l → ∃ k, k < Fcnt S l (N (S 30 23)) ∧ I (lid l 6) k = nI t)
def CRl (S : MI) (T : ML) (I : MI) (L : ML) (l : Nat) : Prop := I (lid l 0) 2 = S 208 l ∧ I (lid l 0) 3 = S 210 l ∧ (S 214 l = 0 → I (lid l 0) 4 = -1) ∧ (S 214 l = 1 → I (lid l 0) 4 = S 217 l ∧ I (lid l 0) 5 = S 215 l ∧ I (lid l 0) 6 = S 216 l) ∧
  (3 ≤ S 208 l → (I (lid l 0) 7).toInt64 = T 218 l ∧ (I (lid l 0) 8).toInt64 = T 219 l ∧ L (lid l 0) 9 = T 220 l ∧ L (lid l 0) 10 = T 221 l)
def CR (n : Nat) (S : MI) (T : ML) (I : MI) (L : ML) : Prop := CRt S I ∧ CRk S I ∧ CRp S I ∧ CRc S I ∧ CRs S T I L ∧ ∀ l, l < n → CRq S I l ∧ CRm S T I L l ∧ CRl S T I L l
/-- the cells that are not the class's -/
def oth (i : Nat) : Prop := i = 30 ∨ i = 90 ∨ (200 ≤ i ∧ i < 300)
/-- the class's memory beside S, T; w orders done, nf notifications and fr messages open; the other cells as in J, M -/
def CX (n : Nat) (S : MI) (T : ML) (w nf fr : Nat) (J : MI) (M : ML) (I : MI) (L : ML) : Prop := CR n S T I L ∧ Inv n S ∧ (I 1 5 = nI w ∧ I 1 6 = nI nf ∧ I 1 7 = nI fr) ∧ (∀ i, oth i → I i = J i ∧ L i = M i) ∧ w ≤ 1000
theorem lid_ne {l j k : Nat} (h : k < 1000) : (lid l j = k) = False := by
  unfold lid
  simp only [eq_iff_iff, iff_false]
  omega
theorem ne_lid {l j k : Nat} (h : k < 1000) : (k = lid l j) = False := by
  unfold lid
  simp only [eq_iff_iff, iff_false]
  omega
theorem lid_eq {l j l' j' : Nat} (h : j < 10) (h' : j' < 10) : (lid l j = lid l' j') = (l = l' ∧ j = j') := by
  unfold lid
  simp only [eq_iff_iff]
  omega
theorem Fcnt_cong {S S' : MI} {l : Nat} (h : S' 226 = S 226) : ∀ t, Fcnt S' l t = Fcnt S l t
  | 0 => rfl
  | t + 1 => by simp only [Fcnt, h, Fcnt_cong h t]
theorem CRm_cong {S S' I I' : MI} {T T' L L' : ML} {l : Nat} (h : CRm S T I L l) (h1 : S' 30 23 = S 30 23) (h2 : S' 226 = S 226) (h3 : S' 224 = S 224) (h4 : T' 225 = T 225) (i2 : I' (lid l 2) 3 = I (lid l 2) 3) (i6 : I' (lid l 6) = I (lid l 6)) (i7 : I' (lid l 7) = I (lid l 7)) (i8 : L' (lid l 8) = L (lid l 8)) : CRm S' T' I' L' l := by
  unfold CRm at h ⊢
  rw [h1, h2, h3, h4, i2, i6, i7, i8, Fcnt_cong h2]
  exact h
theorem CRq_cong {S S' I I' : MI} {l : Nat} (h : CRq S I l) (h1 : S' 209 l = S 209 l) (h2 : S' 211 = S 211) (h3 : S' 212 = S 212) (h4 : S' 213 = S 213) (i1 : I' (lid l 1) = I (lid l 1)) (i3 : I' (lid l 3) = I (lid l 3)) (i4 : I' (lid l 4) = I (lid l 4)) (i5 : I' (lid l 5) = I (lid l 5)) : CRq S' I' l := by
  unfold CRq at h ⊢
  rw [h1, h2, h3, h4, i1, i3, i4, i5]
  exact h
theorem CRl_cong {S S' I I' : MI} {T T' L L' : ML} {l : Nat} (h : CRl S T I L l) (h1 : S' 208 l = S 208 l) (h2 : S' 210 l = S 210 l) (h3 : S' 214 l = S 214 l) (h4 : S' 215 l = S 215 l) (h5 : S' 216 l = S 216 l) (h6 : S' 217 l = S 217 l) (t1 : T' 218 l = T 218 l) (t2 : T' 219 l = T 219 l) (t3 : T' 220 l = T 220 l) (t4 : T' 221 l = T 221 l) (i0 : I' (lid l 0) = I (lid l 0)) (i1 : L' (lid l 0) = L (lid l 0)) : CRl S' T' I' L' l := by
  unfold CRl at h ⊢
  rw [h1, h2, h3, h4, h5, h6, t1, t2, t3, t4, i0, i1]
  exact h
theorem CR_log {n : Nat} {S I : MI} {T L : ML} {c : Nat} (t k v : Int32) (h : CR n S T I L) (hc : S 30 41 = nI c) (hcb : c < 2 ^ 31) : CR n (Flog S t k v) T (Clog I c t k v) L := by
  obtain ⟨h1, h2, h3, h4, h5, h6⟩ := h
  have hN : N (S 30 41) = c := by rw [hc]; exact N_nI hcb
  refine ⟨⟨?_, fun i hi => ?_⟩, ?_, ?_, ?_, ?_, fun l hl => ⟨?_, ?_, ?_⟩⟩
  · simp [Flog, Rlog, Clog, rdI, hN]
  · obtain ⟨a1, a2, a3⟩ := h1.2 i hi
    by_cases e : i = c % 300
    · subst e
      simp [Flog, Rlog, Clog, rdI, hN]
    · have e1 : ¬ i * 3 = c % 300 * 3 := by omega
      have e2 : ¬ i * 3 = c % 300 * 3 + 1 := by omega
      have e3 : ¬ i * 3 = c % 300 * 3 + 2 := by omega
      have e4 : ¬ i * 3 + 1 = c % 300 * 3 := by omega
      have e5 : ¬ i * 3 + 1 = c % 300 * 3 + 2 := by omega
      have e6 : ¬ i * 3 + 2 = c % 300 * 3 := by omega
      have e7 : ¬ i * 3 + 2 = c % 300 * 3 + 1 := by omega
      simp [Flog, Rlog, Clog, rdI, hN, e, e1, e2, e3, e4, e5, e6, e7, a1, a2, a3]
  · simpa [CRk, Flog, Rlog, Clog, upI_ne, rdI] using h2
  · simpa [CRp, Flog, Rlog, Clog, upI_ne, rdI] using h3
  · simpa [CRc, Flog, Rlog, Clog, upI_ne, rdI] using h4
  · simpa [CRs, Flog, Rlog, Clog, upI_ne, rdI] using h5
  · exact CRq_cong (h6 l hl).1 (by simp [Flog, Rlog, rdI]) (by simp [Flog, Rlog, upI_ne]) (by simp [Flog, Rlog, upI_ne]) (by simp [Flog, Rlog, upI_ne]) (by simp [Clog, upI_ne, lid_ne]) (by simp [Clog, upI_ne, lid_ne]) (by simp [Clog, upI_ne, lid_ne]) (by simp [Clog, upI_ne, lid_ne])
  · exact CRm_cong (h6 l hl).2.1 (by simp [Flog, Rlog, rdI]) (by simp [Flog, Rlog, upI_ne]) (by simp [Flog, Rlog, upI_ne]) rfl (by simp [Clog, upI_ne, lid_ne]) (by simp [Clog, upI_ne, lid_ne]) (by simp [Clog, upI_ne, lid_ne]) rfl
  · exact CRl_cong (h6 l hl).2.2 (by simp [Flog, Rlog, rdI]) (by simp [Flog, Rlog, rdI]) (by simp [Flog, Rlog, rdI]) (by simp [Flog, Rlog, rdI]) (by simp [Flog, Rlog, rdI]) (by simp [Flog, Rlog, rdI]) rfl rfl rfl rfl (by simp [Clog, upI_ne, lid_ne]) rfl
