theorem Inv_tadd {n : Nat} {S : MI} {i : Nat} {t : Int32} (h : Inv n S) (hi : i < n) (hm : N (S 30 23) < 400) (ht : nbt t (N (S 30 3))) : Inv n (Fsch0 S i t) := by
  obtain ⟨h1, h2, h3, h4, h5, h6, h7, h8⟩ := h
  have e9 : S 30 23 + 1 = nI (N (S 30 23) + 1) := nI_add1 h6.1.1
  have e2 : Fsch0 S i t 30 23 = nI (N (S 30 23) + 1) := by simp [Fsch0, rdI, e9]
  have e3 : N (Fsch0 S i t 30 23) = N (S 30 23) + 1 := by rw [e2]; exact N_nI (by omega)
  refine ⟨h1, by simpa [Fsch0, rdI] using h2, InvT_cong h3 (by simp [Fsch0, rdI]) (by simp [Fsch0, upI_ne]), InvP_cong h4 (by simp [Fsch0, rdI]) (by simp [Fsch0, rdI]) (by simp [Fsch0, upI_ne]) (by simp [Fsch0, upI_ne]) (by simp [Fsch0, upI_ne]), InvC_cong h5 (by simp [Fsch0, rdI]) (by simp [Fsch0, rdI]) (by simp [Fsch0, upI_ne]) (by simp [Fsch0, upI_ne]) (by simp [Fsch0, upI_ne]) (by simp [Fsch0, upI_ne]), ?_, fun l hl => ⟨InvQ_cong (h7 l hl).1 (by simp [Fsch0, rdI]) (by simp [Fsch0, rdI]) (by simp [Fsch0, rdI]) (fun j hj => by simp [Fsch0, rdI]) (fun j hj => by simp [Fsch0, rdI]), InvB_cong (h7 l hl).2.1 (by simp [Fsch0, rdI]) (by simp [Fsch0, rdI]) (by simp [Fsch0, rdI]) (by simp [Fsch0, rdI]) (by simp [Fsch0, rdI]) (by simp [Fsch0, rdI]), InvS_cong (h7 l hl).2.2 (by simp [Fsch0, rdI])⟩, by simpa [Fsch0, rdI] using h8⟩
  unfold InvM
  rw [e3]
  refine ⟨nb_of e2 (by omega) (by decide), fun q hq => ?_⟩
  by_cases e : q = N (S 30 23)
  · subst e
    refine ⟨by simpa [Fsch0, rdI] using ht, Or.inr ?_⟩
    have : N (nI i) = i := N_nI (by omega)
    simp only [nbt, Fsch0, rdI]
    simp [this, hi]
  · have := h6.2 q (by omega)
    simpa [Fsch0, rdI, e] using this
set_option maxHeartbeats 1000000 in
theorem CX_tadd {n w nf fr : Nat} {S I J : MI} {T L M : ML} {i z : Nat} {t : Int32} {dl : Int64} (h : CX n S T w nf fr J M I L) (hi : i < n) (hm : N (S 30 23) < 400) (ht : nbt t (N (S 30 3))) (hz : Fcnt S i (N (S 30 23)) = z) (hzb : z < 24) : CX n (Fsch0 S i t) (upL T 225 (N (S 30 23)) dl) w nf fr J M (Cmput (upI I 2 4 (I 2 4 + 1)) i z (I 2 4) t) (upL L (lid i 8) z dl) := by
  obtain ⟨h1, h2, h3, h4, h5, h6⟩ := id h.1
  have hV := h.2.1.2.2.2.2.2.2.1
  refine CX_of h ⟨?_, ?_, ?_, ?_, ?_, fun l hl => ⟨?_, ?_, ?_⟩⟩ (Inv_tadd h.2.1 hi hm ht) (by simp [Fsch0, Cmput, upI_ne, upL_ne, rdI, rdL, lid_eq, lid_ne, ne_lid]) (fun i9 h79 h89 => ?_)
  · simpa [CRt, Fsch0, Cmput, upI_ne, upL_ne, rdI, rdL, lid_eq, lid_ne, ne_lid] using h1
  · simpa [CRk, Fsch0, Cmput, upI_ne, upL_ne, rdI, rdL, lid_eq, lid_ne, ne_lid] using h2
  · simpa [CRp, Fsch0, Cmput, upI_ne, upL_ne, rdI, rdL, lid_eq, lid_ne, ne_lid] using h3
  · simpa [CRc, Fsch0, Cmput, upI_ne, upL_ne, rdI, rdL, lid_eq, lid_ne, ne_lid] using h4
  · obtain ⟨a1, a2, a3⟩ := h5
    exact ⟨by simpa [Fsch0, Cmput, upI_ne, upL_ne, rdI, rdL, lid_eq, lid_ne, ne_lid] using a1, by simpa [Fsch0, Cmput, upI_ne, upL_ne, rdI, rdL, lid_eq, lid_ne, ne_lid] using a2, by simp [Fsch0, Cmput, upI_ne, upL_ne, rdI, rdL, lid_eq, lid_ne, ne_lid, a3]⟩
  · exact CRq_cong2 (h6 l hl).1 (by simp [Fsch0, Cmput, upI_ne, upL_ne, rdI, rdL, lid_eq, lid_ne, ne_lid]) (fun j hj => by simp [Fsch0, Cmput, upI_ne, upL_ne, rdI, rdL, lid_eq, lid_ne, ne_lid]) (fun j hj => by simp [Fsch0, Cmput, upI_ne, upL_ne, rdI, rdL, lid_eq, lid_ne, ne_lid]) (fun j hj => by simp [Fsch0, Cmput, upI_ne, upL_ne, rdI, rdL, lid_eq, lid_ne, ne_lid]) (by simp [Fsch0, Cmput, upI_ne, upL_ne, rdI, rdL, lid_eq, lid_ne, ne_lid]) (by simp [Fsch0, Cmput, upI_ne, upL_ne, rdI, rdL, lid_eq, lid_ne, ne_lid]) (by simp [Fsch0, Cmput, upI_ne, upL_ne, rdI, rdL, lid_eq, lid_ne, ne_lid]) (by simp [Fsch0, Cmput, upI_ne, upL_ne, rdI, rdL, lid_eq, lid_ne, ne_lid])
  · have hn8 := h.2.1.1.2
    have h6m := h.2.1.2.2.2.2.2.1
    have e9 : S 30 23 + 1 = nI (N (S 30 23) + 1) := nI_add1 h6m.1.1
    have e2 : Fsch0 S i t 30 23 = nI (N (S 30 23) + 1) := by simp [Fsch0, rdI, e9]
    have e3 : N (Fsch0 S i t 30 23) = N (S 30 23) + 1 := by rw [e2]; exact N_nI (by omega)
    have ec : Fcnt (Fsch0 S i t) l (N (S 30 23)) = Fcnt S l (N (S 30 23)) := Fcnt_out _ (fun q hq => by have : ¬ q = N (S 30 23) := (by omega); simp [Fsch0, rdI, this])
    have ei : I 2 4 = nI (N (S 30 23)) := h5.2.2.trans h6m.1.1
    have tl := (h6 l hl).2.1
    unfold CRm at tl ⊢
    rw [e3]
    simp only [Fcnt]
    rw [ec]
    have el : Fsch0 S i t 226 (N (S 30 23)) = nI i := by simp [Fsch0, rdI]
    rw [el]
    obtain ⟨w1, w2, w3, w4, w5⟩ := tl
    by_cases e : l = i
    · subst e
      rw [hz] at w1 w2 w3 w4 w5 ⊢
      rw [if_pos rfl]
      have hN : N (I 2 4) = N (S 30 23) := by rw [ei]; exact N_nI (by omega)
      refine ⟨by simp [Fsch0, Cmput, upI_ne, upL_ne, rdI, rdL, lid_eq, lid_ne, ne_lid], by omega, fun q hq => ?_, fun q q2 hq hq2 he => ?_, fun t0 ht0 he => ?_⟩
      · by_cases eq : q = z
        · subst eq
          have a1 : Cmput (upI I 2 4 (I 2 4 + 1)) l q (I 2 4) t (lid l 6) q = I 2 4 := by simp [Fsch0, Cmput, upI_ne, upL_ne, rdI, rdL, lid_eq, lid_ne, ne_lid]
          rw [a1, hN]
          refine ⟨⟨by rw [hN]; exact ei, by rw [hN]; omega⟩, by simp [Fsch0, Cmput, upI_ne, upL_ne, rdI, rdL, lid_eq, lid_ne, ne_lid], by simp [Fsch0, Cmput, upI_ne, upL_ne, rdI, rdL, lid_eq, lid_ne, ne_lid], by simp [Fsch0, Cmput, upI_ne, upL_ne, rdI, rdL, lid_eq, lid_ne, ne_lid]⟩
        · obtain ⟨v1, v2, v3, v4⟩ := w3 q (by omega)
          have a1 : Cmput (upI I 2 4 (I 2 4 + 1)) l z (I 2 4) t (lid l 6) q = I (lid l 6) q := by simp [Fsch0, Cmput, upI_ne, upL_ne, rdI, rdL, lid_eq, lid_ne, ne_lid, eq]
          rw [a1]
          have hne : ¬ N (I (lid l 6) q) = N (S 30 23) := by have := v1.2; omega
          exact ⟨⟨v1.1, by have := v1.2; omega⟩, by simpa [Fsch0, Cmput, upI_ne, upL_ne, rdI, rdL, lid_eq, lid_ne, ne_lid, hne] using v2, by simpa [Fsch0, Cmput, upI_ne, upL_ne, rdI, rdL, lid_eq, lid_ne, ne_lid, hne, eq] using v3, by simpa [Fsch0, Cmput, upI_ne, upL_ne, rdI, rdL, lid_eq, lid_ne, ne_lid, hne, eq] using v4⟩
      · by_cases eq : q = z
        · by_cases eq2 : q2 = z
          · omega
          · exfalso
            subst eq
            have v1 := (w3 q2 (by omega)).1
            have : I 2 4 = I (lid l 6) q2 := by simpa [Fsch0, Cmput, upI_ne, upL_ne, rdI, rdL, lid_eq, lid_ne, ne_lid, eq2] using he
            have h9 := v1.2
            rw [← this, hN] at h9
            omega
        · by_cases eq2 : q2 = z
          · exfalso
            subst eq2
            have v1 := (w3 q (by omega)).1
            have : I (lid l 6) q = I 2 4 := by simpa [Fsch0, Cmput, upI_ne, upL_ne, rdI, rdL, lid_eq, lid_ne, ne_lid, eq] using he
            have h9 := v1.2
            rw [this, hN] at h9
            omega
          · exact w4 q q2 (by omega) (by omega) (by simpa [Fsch0, Cmput, upI_ne, upL_ne, rdI, rdL, lid_eq, lid_ne, ne_lid, eq, eq2] using he)
      · by_cases et : t0 = N (S 30 23)
        · subst et
          exact ⟨z, by omega, by simp [Fsch0, Cmput, upI_ne, upL_ne, rdI, rdL, lid_eq, lid_ne, ne_lid, ei]⟩
        · obtain ⟨q, a1, a2⟩ := w5 t0 (by omega) (by simpa [Fsch0, Cmput, upI_ne, upL_ne, rdI, rdL, lid_eq, lid_ne, ne_lid, et] using he)
          have : ¬ q = z := by omega
          exact ⟨q, by omega, by simpa [Fsch0, Cmput, upI_ne, upL_ne, rdI, rdL, lid_eq, lid_ne, ne_lid, this] using a2⟩
    · rw [if_neg (fun e9 => e (nI_inj (by omega) (by omega) e9.symm))]
      refine ⟨by simpa [Fsch0, Cmput, upI_ne, upL_ne, rdI, rdL, lid_eq, lid_ne, ne_lid, e] using w1, by omega, fun q hq => ?_, fun q q2 hq hq2 he => w4 q q2 (by omega) (by omega) (by simpa [Fsch0, Cmput, upI_ne, upL_ne, rdI, rdL, lid_eq, lid_ne, ne_lid, e] using he), fun t0 ht0 he => ?_⟩
      · obtain ⟨v1, v2, v3, v4⟩ := w3 q (by omega)
        have a1 : Cmput (upI I 2 4 (I 2 4 + 1)) i z (I 2 4) t (lid l 6) q = I (lid l 6) q := by simp [Fsch0, Cmput, upI_ne, upL_ne, rdI, rdL, lid_eq, lid_ne, ne_lid, e]
        rw [a1]
        have hne : ¬ N (I (lid l 6) q) = N (S 30 23) := by have := v1.2; omega
        exact ⟨⟨v1.1, by have := v1.2; omega⟩, by simpa [Fsch0, Cmput, upI_ne, upL_ne, rdI, rdL, lid_eq, lid_ne, ne_lid, hne] using v2, by simpa [Fsch0, Cmput, upI_ne, upL_ne, rdI, rdL, lid_eq, lid_ne, ne_lid, hne, e] using v3, by simpa [Fsch0, Cmput, upI_ne, upL_ne, rdI, rdL, lid_eq, lid_ne, ne_lid, hne, e] using v4⟩
      · by_cases et : t0 = N (S 30 23)
        · subst et
          exact absurd (nI_inj (by omega) (by omega) ((by simpa [Fsch0, Cmput, upI_ne, upL_ne, rdI, rdL, lid_eq, lid_ne, ne_lid] using he : nI i = nI l))) (fun q => e q.symm)
        · obtain ⟨q, a1, a2⟩ := w5 t0 (by omega) (by simpa [Fsch0, Cmput, upI_ne, upL_ne, rdI, rdL, lid_eq, lid_ne, ne_lid, et] using he)
          exact ⟨q, by omega, by simpa [Fsch0, Cmput, upI_ne, upL_ne, rdI, rdL, lid_eq, lid_ne, ne_lid, e] using a2⟩
  · exact CRl_cong (h6 l hl).2.2 (by simp [Fsch0, Cmput, upI_ne, upL_ne, rdI, rdL, lid_eq, lid_ne, ne_lid]) (by simp [Fsch0, Cmput, upI_ne, upL_ne, rdI, rdL, lid_eq, lid_ne, ne_lid]) (by simp [Fsch0, Cmput, upI_ne, upL_ne, rdI, rdL, lid_eq, lid_ne, ne_lid]) (by simp [Fsch0, Cmput, upI_ne, upL_ne, rdI, rdL, lid_eq, lid_ne, ne_lid]) (by simp [Fsch0, Cmput, upI_ne, upL_ne, rdI, rdL, lid_eq, lid_ne, ne_lid]) (by simp [Fsch0, Cmput, upI_ne, upL_ne, rdI, rdL, lid_eq, lid_ne, ne_lid]) (by simp [Fsch0, Cmput, upI_ne, upL_ne, rdI, rdL, lid_eq, lid_ne, ne_lid]) (by simp [Fsch0, Cmput, upI_ne, upL_ne, rdI, rdL, lid_eq, lid_ne, ne_lid]) (by simp [Fsch0, Cmput, upI_ne, upL_ne, rdI, rdL, lid_eq, lid_ne, ne_lid]) (by simp [Fsch0, Cmput, upI_ne, upL_ne, rdI, rdL, lid_eq, lid_ne, ne_lid]) (by simp [Fsch0, Cmput, upI_ne, upL_ne, rdI, rdL, lid_eq, lid_ne, ne_lid]) (by simp [Fsch0, Cmput, upI_ne, upL_ne, rdI, rdL, lid_eq, lid_ne, ne_lid])
  · simp [Fsch0, Cmput, upI_ne, upL_ne, rdI, rdL, lid_eq, lid_ne, ne_lid, ne_lid (show i9 < 1000 by omega), show i9 ≠ 1 by omega, show i9 ≠ 2 by omega, show i9 ≠ 3 by omega, show i9 ≠ 4 by omega, show i9 ≠ 5 by omega, show i9 ≠ 6 by omega, show i9 ≠ 330 by omega, show i9 ≠ 340 by omega, show i9 ≠ 341 by omega, show i9 ≠ 342 by omega, show i9 ≠ 343 by omega, show i9 ≠ 350 by omega, show i9 ≠ 351 by omega, show i9 ≠ 352 by omega, show i9 ≠ 353 by omega, show i9 ≠ 354 by omega, show i9 ≠ 355 by omega, show i9 ≠ 360 by omega, show i9 ≠ 361 by omega, show i9 ≠ 362 by omega, show i9 ≠ 363 by omega, show i9 ≠ 364 by omega]
/-- all timers of the loop i are taken away -/
def Fclr (S : MI) (i m : Nat) : MI := fun x q => if x = 226 ∧ q < m ∧ S 226 q = nI i then -1 else S x q
theorem Fclr_ne {S : MI} {i m x : Nat} (h : x ≠ 226) : Fclr S i m x = S x := by
  funext q
  simp [Fclr, h]
set_option maxHeartbeats 1000000 in
theorem Inv_clr {n : Nat} {S : MI} {i m : Nat} (h : Inv n S) : Inv n (Fclr S i m) := by
  obtain ⟨h1, h2, h3, h4, h5, h6, h7, h8⟩ := h
  refine ⟨h1, (by simpa [Fclr_ne, upI_ne, rdI] using h2), InvT_cong h3 (by simp [Fclr_ne, upI_ne, rdI]) (by simp [Fclr_ne, upI_ne, rdI]), InvP_cong h4 (by simp [Fclr_ne, upI_ne, rdI]) (by simp [Fclr_ne, upI_ne, rdI]) (by simp [Fclr_ne, upI_ne, rdI]) (by simp [Fclr_ne, upI_ne, rdI]) (by simp [Fclr_ne, upI_ne, rdI]), InvC_cong h5 (by simp [Fclr_ne, upI_ne, rdI]) (by simp [Fclr_ne, upI_ne, rdI]) (by simp [Fclr_ne, upI_ne, rdI]) (by simp [Fclr_ne, upI_ne, rdI]) (by simp [Fclr_ne, upI_ne, rdI]) (by simp [Fclr_ne, upI_ne, rdI]), ?_, fun l hl => ⟨InvQ_cong (h7 l hl).1 (by simp [Fclr_ne, upI_ne, rdI]) (by simp [Fclr_ne, upI_ne, rdI]) (by simp [Fclr_ne, upI_ne, rdI]) (fun j hj => by simp [Fclr_ne, upI_ne, rdI]) (fun j hj => by simp [Fclr_ne, upI_ne, rdI]), InvB_cong (h7 l hl).2.1 (by simp [Fclr_ne, upI_ne, rdI]) (by simp [Fclr_ne, upI_ne, rdI]) (by simp [Fclr_ne, upI_ne, rdI]) (by simp [Fclr_ne, upI_ne, rdI]) (by simp [Fclr_ne, upI_ne, rdI]) (by simp [Fclr_ne, upI_ne, rdI]), InvS_cong (h7 l hl).2.2 (by simp [Fclr_ne, upI_ne, rdI])⟩, (by simpa [Fclr_ne, upI_ne, rdI] using h8)⟩
  · refine ⟨by simpa [Fclr_ne] using h6.1, fun q hq => ?_⟩
    have := h6.2 q (by simpa [Fclr_ne] using hq)
    refine ⟨by simpa [Fclr_ne] using this.1, ?_⟩
    unfold Fclr
    split
    · exact Or.inl rfl
    · exact this.2
set_option maxHeartbeats 1000000 in
theorem CX_clr {n w nf fr : Nat} {S I J : MI} {T L M : ML} {i : Nat} (h : CX n S T w nf fr J M I L) (hi : i < n) : CX n (Fclr S i (N (S 30 23))) (T) w nf fr J M (upI I (lid i 2) 3 0) (L) := by
  obtain ⟨h1, h2, h3, h4, h5, h6⟩ := id h.1
  have hV := h.2.1.2.2.2.2.2.2.1
  refine CX_of h ⟨?_, ?_, ?_, ?_, ?_, fun l hl => ⟨?_, ?_, ?_⟩⟩ (Inv_clr h.2.1) (by simp [Fclr_ne, upI_ne, upL_ne, rdI, rdL, lid_eq, lid_ne, ne_lid]) (fun i9 h79 h89 => ?_)
  · simpa [CRt, Fclr_ne, upI_ne, upL_ne, rdI, rdL, lid_eq, lid_ne, ne_lid] using h1
  · simpa [CRk, Fclr_ne, upI_ne, upL_ne, rdI, rdL, lid_eq, lid_ne, ne_lid] using h2
  · simpa [CRp, Fclr_ne, upI_ne, upL_ne, rdI, rdL, lid_eq, lid_ne, ne_lid] using h3
  · simpa [CRc, Fclr_ne, upI_ne, upL_ne, rdI, rdL, lid_eq, lid_ne, ne_lid] using h4
  · simpa [CRs, Fclr_ne, upI_ne, upL_ne, rdI, rdL, lid_eq, lid_ne, ne_lid] using h5
  · exact CRq_cong2 (h6 l hl).1 (by simp [Fclr_ne, upI_ne, upL_ne, rdI, rdL, lid_eq, lid_ne, ne_lid]) (fun j hj => by simp [Fclr_ne, upI_ne, upL_ne, rdI, rdL, lid_eq, lid_ne, ne_lid]) (fun j hj => by simp [Fclr_ne, upI_ne, upL_ne, rdI, rdL, lid_eq, lid_ne, ne_lid]) (fun j hj => by simp [Fclr_ne, upI_ne, upL_ne, rdI, rdL, lid_eq, lid_ne, ne_lid]) (by simp [Fclr_ne, upI_ne, upL_ne, rdI, rdL, lid_eq, lid_ne, ne_lid]) (by simp [Fclr_ne, upI_ne, upL_ne, rdI, rdL, lid_eq, lid_ne, ne_lid]) (by simp [Fclr_ne, upI_ne, upL_ne, rdI, rdL, lid_eq, lid_ne, ne_lid]) (by simp [Fclr_ne, upI_ne, upL_ne, rdI, rdL, lid_eq, lid_ne, ne_lid])
  · have hn8 := h.2.1.1.2
    have tl := (h6 l hl).2.1
    unfold CRm at tl ⊢
    have e23 : Fclr S i (N (S 30 23)) 30 23 = S 30 23 := by simp [Fclr_ne]
    rw [e23]
    obtain ⟨w1, w2, w3, w4, w5⟩ := tl
    by_cases e : l = i
    · subst e
      have hc : ∀ m, m ≤ N (S 30 23) → Fcnt (Fclr S l (N (S 30 23))) l m = 0 := by
        intro m
        induction m with
        | zero => intro _; rfl
        | succ m ih =>
          intro hm
          simp only [Fcnt]
          rw [ih (by omega), if_neg]
          unfold Fclr
          split
          · exact nI_ne_m1 (by omega)
          · rename_i hq
            exact fun e9 => hq ⟨rfl, by omega, e9⟩
      rw [hc _ (Nat.le_refl _)]
      refine ⟨by simp [Fclr_ne, upI_ne, upL_ne, rdI, rdL, lid_eq, lid_ne, ne_lid]; rfl, by omega, fun q hq => by omega, fun q q2 hq => by omega, fun t0 ht0 he => ?_⟩
      exfalso
      unfold Fclr at he
      split at he
      · exact nI_ne_m1 (j := l) (by omega) he
      · rename_i hq
        exact hq ⟨rfl, ht0, he⟩
    · have hq : ∀ t0, (Fclr S i (N (S 30 23)) 226 t0 = nI l) = (S 226 t0 = nI l) := by
        intro t0
        unfold Fclr
        split
        · rename_i hq
          simp only [eq_iff_iff]
          exact ⟨fun e9 => absurd e9 (nI_ne_m1 (by omega)), fun e9 => absurd (nI_inj (by omega) (by omega) (e9.symm.trans hq.2.2)) e⟩
        · rfl
      have hc : ∀ m, Fcnt (Fclr S i (N (S 30 23))) l m = Fcnt S l m := by
        intro m
        induction m with
        | zero => rfl
        | succ m ih => simp only [Fcnt, ih, hq]
      rw [hc]
      refine ⟨by simpa [Fclr_ne, upI_ne, upL_ne, rdI, rdL, lid_eq, lid_ne, ne_lid, e] using w1, w2, fun q hq1 => ?_, fun q q2 hq1 hq2 he => w4 q q2 hq1 hq2 (by simpa [Fclr_ne, upI_ne, upL_ne, rdI, rdL, lid_eq, lid_ne, ne_lid, e] using he), fun t0 ht0 he => ?_⟩
      · obtain ⟨v1, v2, v3, v4⟩ := w3 q hq1
        refine ⟨by simpa [Fclr_ne, upI_ne, upL_ne, rdI, rdL, lid_eq, lid_ne, ne_lid, e] using v1, ?_, by simpa [Fclr_ne, upI_ne, upL_ne, rdI, rdL, lid_eq, lid_ne, ne_lid, e] using v3, by simpa [Fclr_ne, upI_ne, upL_ne, rdI, rdL, lid_eq, lid_ne, ne_lid, e] using v4⟩
        have := (hq (N (I (lid l 6) q))).mpr v2
        simpa [Fclr_ne, upI_ne, upL_ne, rdI, rdL, lid_eq, lid_ne, ne_lid, e] using this
      · obtain ⟨q, a1, a2⟩ := w5 t0 ht0 ((hq t0).mp he)
        exact ⟨q, a1, by simpa [Fclr_ne, upI_ne, upL_ne, rdI, rdL, lid_eq, lid_ne, ne_lid, e] using a2⟩
  · exact CRl_cong (h6 l hl).2.2 (by simp [Fclr_ne, upI_ne, upL_ne, rdI, rdL, lid_eq, lid_ne, ne_lid]) (by simp [Fclr_ne, upI_ne, upL_ne, rdI, rdL, lid_eq, lid_ne, ne_lid]) (by simp [Fclr_ne, upI_ne, upL_ne, rdI, rdL, lid_eq, lid_ne, ne_lid]) (by simp [Fclr_ne, upI_ne, upL_ne, rdI, rdL, lid_eq, lid_ne, ne_lid]) (by simp [Fclr_ne, upI_ne, upL_ne, rdI, rdL, lid_eq, lid_ne, ne_lid]) (by simp [Fclr_ne, upI_ne, upL_ne, rdI, rdL, lid_eq, lid_ne, ne_lid]) (by simp [Fclr_ne, upI_ne, upL_ne, rdI, rdL, lid_eq, lid_ne, ne_lid]) (by simp [Fclr_ne, upI_ne, upL_ne, rdI, rdL, lid_eq, lid_ne, ne_lid]) (by simp [Fclr_ne, upI_ne, upL_ne, rdI, rdL, lid_eq, lid_ne, ne_lid]) (by simp [Fclr_ne, upI_ne, upL_ne, rdI, rdL, lid_eq, lid_ne, ne_lid]) (by simp [Fclr_ne, upI_ne, upL_ne, rdI, rdL, lid_eq, lid_ne, ne_lid]) (by simp [Fclr_ne, upI_ne, upL_ne, rdI, rdL, lid_eq, lid_ne, ne_lid])
  · simp [Fclr_ne, upI_ne, upL_ne, rdI, rdL, lid_eq, lid_ne, ne_lid, ne_lid (show i9 < 1000 by omega), show i9 ≠ 1 by omega, show i9 ≠ 2 by omega, show i9 ≠ 3 by omega, show i9 ≠ 4 by omega, show i9 ≠ 5 by omega, show i9 ≠ 6 by omega, show i9 ≠ 330 by omega, show i9 ≠ 340 by omega, show i9 ≠ 341 by omega, show i9 ≠ 342 by omega, show i9 ≠ 343 by omega, show i9 ≠ 350 by omega, show i9 ≠ 351 by omega, show i9 ≠ 352 by omega, show i9 ≠ 353 by omega, show i9 ≠ 354 by omega, show i9 ≠ 355 by omega, show i9 ≠ 360 by omega, show i9 ≠ 361 by omega, show i9 ≠ 362 by omega, show i9 ≠ 363 by omega, show i9 ≠ 364 by omega]
