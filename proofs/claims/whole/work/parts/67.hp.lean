/-! ===== one call of the law: the class's answer beside what is asked ===== -/
theorem oth_not {i : Nat} (h : ¬ (i = 30 ∨ i = 90 ∨ (200 ≤ i ∧ i < 300))) : ¬ oth i := h
theorem lid_oth (l j : Nat) : ¬ oth (lid l j) := by
  unfold oth lid
  omega
theorem CR_cong {n : Nat} {S : MI} {T : ML} {I I' : MI} {L L' : ML} (h : CR n S T I L) (e : ∀ i, ¬ oth i → I' i = I i ∧ L' i = L i) : CR n S T I' L' := by
  have el : ∀ l j, I' (lid l j) = I (lid l j) := fun l j => (e _ (lid_oth l j)).1
  have eL : ∀ l j, L' (lid l j) = L (lid l j) := fun l j => (e _ (lid_oth l j)).2
  have c : ∀ i, ¬ (i = 30 ∨ i = 90 ∨ (200 ≤ i ∧ i < 300)) → I' i = I i := fun i hi => (e i (oth_not hi)).1
  have e2 : L' 2 = L 2 := (e 2 (oth_not (by decide))).2
  simp only [CR, CRt, CRk, CRp, CRc, CRs, CRq, CRm, CRl, el, eL, e2, c 2 (by decide), c 3 (by decide), c 330 (by decide), c 4 (by decide), c 340 (by decide), c 341 (by decide), c 342 (by decide), c 343 (by decide), c 5 (by decide), c 350 (by decide), c 351 (by decide), c 352 (by decide), c 353 (by decide), c 354 (by decide), c 355 (by decide), c 6 (by decide), c 360 (by decide), c 361 (by decide), c 362 (by decide), c 363 (by decide), c 364 (by decide)] at h ⊢
  exact h
theorem CX_re {n : Nat} {S J : MI} {T M : ML} {w nf fr : Nat} {I I' : MI} {L L' : ML} (h : CX n S T w nf fr J M I L) (e : ∀ i, ¬ oth i → I' i = I i ∧ L' i = L i) : CX n S T w nf fr I' L' I' L' := by
  obtain ⟨h1, h2, h3, h4, h5⟩ := h
  have e1 : I' 1 = I 1 := (e 1 (oth_not (by decide))).1
  exact ⟨CR_cong h1 e, h2, by rw [e1]; exact h3, fun _ _ => ⟨rfl, rfl⟩, h5⟩
theorem co_cong {I I' : MI} (e : ∀ i, oth i → i ≠ 90 → I' i = I i) : co I' = co I := by
  funext i j
  unfold co
  by_cases h30 : i = 30
  · subst h30
    rw [e 30 (Or.inl rfl) (by decide)]
  · by_cases hc : 203 ≤ i ∧ i ≤ 244
    · rw [e i (Or.inr (Or.inr (by omega))) (by omega)]
    · have hn : ¬ core i j := fun q => by unfold core at q; omega
      rw [if_neg hn, if_neg hn]
theorem coL_cong {L L' : ML} (e : ∀ i, oth i → i ≠ 90 → L' i = L i) : coL L' = coL L := by
  funext i j
  unfold coL
  by_cases h30 : i = 30
  · subst h30
    rw [e 30 (Or.inl rfl) (by decide)]
  · by_cases hc : 203 ≤ i ∧ i ≤ 244
    · rw [e i (Or.inr (Or.inr (by omega))) (by omega)]
    · have hn : ¬ core i j := fun q => by unfold core at q; omega
      rw [if_neg hn, if_neg hn]
/-- what a call leaves: the class's memory stands for H's, the reference's is as it was -/
def HA (n : Nat) (I : MI) (L : ML) (S : MI) (T : ML) (I1 : MI) (L1 : ML) : Prop := (∃ w, CX n S T w 0 0 I1 L1 I1 L1) ∧ co I1 = co I ∧ coL L1 = coL L
theorem HA_of {n : Nat} {I : MI} {L : ML} {S : MI} {T : ML} {I1 : MI} {L1 : ML} (h : ∃ w, CX n S T w 0 0 I L I1 L1) : HA n I L S T I1 L1 := by
  obtain ⟨w, h⟩ := h
  exact ⟨⟨w, CX_re h (fun _ _ => ⟨rfl, rfl⟩)⟩, co_cong (fun i hi _ => (h.2.2.2.1 i hi).1), coL_cong (fun i hi _ => (h.2.2.2.1 i hi).2)⟩
theorem HA.out {n : Nat} {I : MI} {L : ML} {S : MI} {T : ML} {I1 : MI} {L1 : ML} {v : Int64} (h : HA n I L S T I1 L1) : HA n I L S T I1 (upL L1 90 0 v) := by
  obtain ⟨⟨w, h1⟩, h2, h3⟩ := h
  refine ⟨⟨w, CX_re h1 (fun i hi => ⟨rfl, upL_ne (fun q => hi (Or.inr (Or.inl q)))⟩)⟩, h2, ?_⟩
  rw [← h3]
  exact coL_cong (fun i _ h9 => upL_ne h9)
def HP (n : Nat) (I : MI) (L : ML) (H : HR) : vq_R := fun r I1 L1 => r = some (.int H.1) ∧ (H.1 = 0 → L1 90 0 = H.2.1.toInt64) ∧ HA n I L H.2.2.1 H.2.2.2 I1 L1
def HPv (n : Nat) (I : MI) (L : ML) (H : HR) : vq_R := fun r I1 L1 => r = some (.int H.1) ∧ HA n I L H.2.2.1 H.2.2.2 I1 L1
def HPa (n : Nat) (I : MI) (L : ML) (x : Int32) : vq_R := fun r I1 L1 => r = some (.int (Hadvance (coL L) x).1) ∧ ((Hadvance (coL L) x).1 = 0 → L1 90 0 = (Hadvance (coL L) x).2.1) ∧ HA n I L (co I) (Hadvance (coL L) x).2.2 I1 L1
theorem HP_ok {n : Nat} {I : MI} {L : ML} {H : HR} {I1 : MI} {L1 : ML} {v : Int32} (h : hN n I L H (some (.int v)) I1 L1) : HP n I L H (some (.int 0)) I1 (upL L1 90 0 v.toInt64) := by
  obtain ⟨h1, h2, h3⟩ := h
  cases h2
  exact ⟨by rw [h1], fun _ => by simp [upL], (HA_of h3).out⟩
theorem HP_thr {n : Nat} {I : MI} {L : ML} {H : HR} {I1 : MI} {L1 : ML} {e1 e2 E : String} (h : hX e1 e2 n I L H E I1 L1) : (E = e1 ∧ HP n I L H (some (.int 1)) I1 L1) ∨ (E = e2 ∧ HP n I L H (some (.int 2)) I1 L1) := by
  obtain ⟨h1, h3⟩ := h
  rcases h1 with ⟨ha, hb⟩ | ⟨ha, hb⟩
  · exact Or.inl ⟨ha, by rw [hb], fun q => by rw [hb] at q; exact absurd q (by decide), HA_of h3⟩
  · exact Or.inr ⟨ha, by rw [hb], fun q => by rw [hb] at q; exact absurd q (by decide), HA_of h3⟩
theorem HPv_ok {n : Nat} {I : MI} {L : ML} {H : HR} {I1 : MI} {L1 : ML} (h : hV n I L H none I1 L1) : HPv n I L H (some (.int 0)) I1 L1 := by
  obtain ⟨h1, h2, h3⟩ := h
  exact ⟨by rw [h1], HA_of h3⟩
theorem HPv_thr {n : Nat} {I : MI} {L : ML} {H : HR} {I1 : MI} {L1 : ML} {e1 e2 E : String} (h : hX e1 e2 n I L H E I1 L1) : (E = e1 ∧ HPv n I L H (some (.int 1)) I1 L1) ∨ (E = e2 ∧ HPv n I L H (some (.int 2)) I1 L1) := by
  obtain ⟨h1, h3⟩ := h
  rcases h1 with ⟨ha, hb⟩ | ⟨ha, hb⟩
  · exact Or.inl ⟨ha, by rw [hb], HA_of h3⟩
  · exact Or.inr ⟨ha, by rw [hb], HA_of h3⟩
