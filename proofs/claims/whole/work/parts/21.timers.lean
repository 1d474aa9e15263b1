/-! ===== timers ===== -/
theorem Fcnt_set {S : MI} {l t : Nat} {v : Int32} : ∀ m, t < m → Fcnt (upI S 226 t v) l m + (if S 226 t = nI l then 1 else 0) = Fcnt S l m + (if v = nI l then 1 else 0)
  | 0, h => absurd h (Nat.not_lt_zero _)
  | m + 1, h => by
    simp only [Fcnt]
    by_cases e : t = m
    · subst e
      have h0 : ∀ q, q ≤ t → Fcnt (upI S 226 t v) l q = Fcnt S l q := by
        intro q
        induction q with
        | zero => intro _; rfl
        | succ q ih =>
          intro hq
          simp only [Fcnt]
          rw [ih (by omega)]
          have : ¬ q = t := by omega
          simp [rdI, this]
      rw [h0 t (Nat.le_refl _)]
      simp [rdI]
      omega
    · have ih := Fcnt_set (S := S) (l := l) (t := t) (v := v) m (by omega)
      have : ¬ m = t := fun q => e q.symm
      simp only [rdI, this, and_false, if_false]
      omega
theorem Fcnt_out {S S' : MI} {l : Nat} : ∀ m, (∀ t, t < m → S' 226 t = S 226 t) → Fcnt S' l m = Fcnt S l m
  | 0, _ => rfl
  | m + 1, h => by
    simp only [Fcnt]
    rw [Fcnt_out m (fun t ht => h t (by omega)), h m (by omega)]
theorem nI_ne_m1 {j : Nat} (h : j < 2 ^ 31) : ¬ (-1 : Int32) = nI j := by
  intro e
  have := congrArg Int32.toInt e
  rw [nI_toInt h] at this
  have e1 : (-1 : Int32).toInt = -1 := by decide
  rw [e1] at this
  omega
theorem nI_inj {a b : Nat} (ha : a < 2 ^ 31) (hb : b < 2 ^ 31) (h : nI a = nI b) : a = b := (nI_eq ha hb).mp h
set_option maxHeartbeats 1000000 in
theorem Inv_drop {n : Nat} {S : MI} {t : Nat} (h : Inv n S) : Inv n (upI S 226 t (-1)) := by
  obtain ⟨h1, h2, h3, h4, h5, h6, h7, h8⟩ := h
  refine ⟨h1, (by simpa [upI_ne, rdI] using h2), InvT_cong h3 (by simp [upI_ne, rdI]) (by simp [upI_ne, rdI]), InvP_cong h4 (by simp [upI_ne, rdI]) (by simp [upI_ne, rdI]) (by simp [upI_ne, rdI]) (by simp [upI_ne, rdI]) (by simp [upI_ne, rdI]), InvC_cong h5 (by simp [upI_ne, rdI]) (by simp [upI_ne, rdI]) (by simp [upI_ne, rdI]) (by simp [upI_ne, rdI]) (by simp [upI_ne, rdI]) (by simp [upI_ne, rdI]), ?_, fun l hl => ⟨InvQ_cong (h7 l hl).1 (by simp [upI_ne, rdI]) (by simp [upI_ne, rdI]) (by simp [upI_ne, rdI]) (fun j hj => by simp [upI_ne, rdI]) (fun j hj => by simp [upI_ne, rdI]), InvB_cong (h7 l hl).2.1 (by simp [upI_ne, rdI]) (by simp [upI_ne, rdI]) (by simp [upI_ne, rdI]) (by simp [upI_ne, rdI]) (by simp [upI_ne, rdI]) (by simp [upI_ne, rdI]), InvS_cong (h7 l hl).2.2 (by simp [upI_ne, rdI])⟩, (by simpa [upI_ne, rdI] using h8)⟩
  · refine ⟨by simpa [rdI] using h6.1, fun q hq => ?_⟩
    have := h6.2 q (by simpa [rdI] using hq)
    by_cases e : q = t
    · subst e
      exact ⟨by simpa [rdI] using this.1, Or.inl (by simp [rdI])⟩
    · simpa [rdI, e] using this
set_option maxHeartbeats 1000000 in
theorem CX_drop {n w nf fr : Nat} {S I J : MI} {T L M : ML} {i k z t : Nat} (h : CX n S T w nf fr J M I L) (hi : i < n) (hz : Fcnt S i (N (S 30 23)) = z + 1) (hk : k < z + 1) (ht : I (lid i 6) k = nI t) (htb : t < 2 ^ 31) : CX n (upI S 226 t (-1)) (T) w nf fr J M (Cmrem I i z k) (upL L (lid i 8) k (L (lid i 8) z)) := by
  obtain ⟨h1, h2, h3, h4, h5, h6⟩ := id h.1
  have hV := h.2.1.2.2.2.2.2.2.1
  refine CX_of h ⟨?_, ?_, ?_, ?_, ?_, fun l hl => ⟨?_, ?_, ?_⟩⟩ (Inv_drop h.2.1) (by simp [Cmrem, upI_ne, upL_ne, rdI, rdL, lid_eq, lid_ne, ne_lid]) (fun i9 h79 h89 => ?_)
  · simpa [CRt, Cmrem, upI_ne, upL_ne, rdI, rdL, lid_eq, lid_ne, ne_lid] using h1
  · simpa [CRk, Cmrem, upI_ne, upL_ne, rdI, rdL, lid_eq, lid_ne, ne_lid] using h2
  · simpa [CRp, Cmrem, upI_ne, upL_ne, rdI, rdL, lid_eq, lid_ne, ne_lid] using h3
  · simpa [CRc, Cmrem, upI_ne, upL_ne, rdI, rdL, lid_eq, lid_ne, ne_lid] using h4
  · simpa [CRs, Cmrem, upI_ne, upL_ne, rdI, rdL, lid_eq, lid_ne, ne_lid] using h5
  · exact CRq_cong2 (h6 l hl).1 (by simp [Cmrem, upI_ne, upL_ne, rdI, rdL, lid_eq, lid_ne, ne_lid]) (fun j hj => by simp [Cmrem, upI_ne, upL_ne, rdI, rdL, lid_eq, lid_ne, ne_lid]) (fun j hj => by simp [Cmrem, upI_ne, upL_ne, rdI, rdL, lid_eq, lid_ne, ne_lid]) (fun j hj => by simp [Cmrem, upI_ne, upL_ne, rdI, rdL, lid_eq, lid_ne, ne_lid]) (by simp [Cmrem, upI_ne, upL_ne, rdI, rdL, lid_eq, lid_ne, ne_lid]) (by simp [Cmrem, upI_ne, upL_ne, rdI, rdL, lid_eq, lid_ne, ne_lid]) (by simp [Cmrem, upI_ne, upL_ne, rdI, rdL, lid_eq, lid_ne, ne_lid]) (by simp [Cmrem, upI_ne, upL_ne, rdI, rdL, lid_eq, lid_ne, ne_lid])
  · have hn8 := h.2.1.1.2
    have ti := (h6 i hi).2.1
    unfold CRm at ti
    rw [hz] at ti
    obtain ⟨t1, t2, t3, t4, t5⟩ := ti
    obtain ⟨u1, u2, u3, u4⟩ := t3 k hk
    rw [ht] at u1 u2 u3 u4
    have hN : N (nI t) = t := N_nI htb
    rw [hN] at u2 u3 u4
    have htm : t < N (S 30 23) := by have := u1.2; rw [hN] at this; exact this
    have e23 : upI S 226 t (-1) 30 23 = S 30 23 := by simp [rdI]
    have hc := Fcnt_set (S := S) (l := l) (t := t) (v := (-1)) (N (S 30 23)) htm
    rw [if_neg (nI_ne_m1 (j := l) (by omega))] at hc
    by_cases e : l = i
    · subst e
      rw [if_pos u2, hz] at hc
      have hc2 : Fcnt (upI S 226 t (-1)) l (N (S 30 23)) = z := by omega
      have num : ∀ q, q < z → ∃ q', q' < z + 1 ∧ q' ≠ k ∧ Cmrem I l z k (lid l 6) q = I (lid l 6) q' ∧ Cmrem I l z k (lid l 7) q = I (lid l 7) q' ∧ upL L (lid l 8) k (L (lid l 8) z) (lid l 8) q = L (lid l 8) q' ∧ (q' = q ∨ (q = k ∧ q' = z)) := by
        intro q hq
        by_cases eq : q = k
        · subst eq
          refine ⟨z, by omega, by omega, ?_, ?_, ?_, Or.inr ⟨rfl, rfl⟩⟩ <;> simp [Cmrem, upI_ne, upL_ne, rdI, rdL, lid_eq, lid_ne, ne_lid]
        · refine ⟨q, by omega, eq, ?_, ?_, ?_, Or.inl rfl⟩ <;> simp [Cmrem, upI_ne, upL_ne, rdI, rdL, lid_eq, lid_ne, ne_lid, eq]
      unfold CRm
      rw [e23, hc2]
      refine ⟨by simp [Cmrem, upI_ne, upL_ne, rdI, rdL, lid_eq, lid_ne, ne_lid], by omega, fun q hq => ?_, fun q q2 hq hq2 he => ?_, fun t0 ht0 he => ?_⟩
      · obtain ⟨q', b1, b2, b3, b4, b5, -⟩ := num q hq
        rw [b3, b4, b5]
        obtain ⟨v1, v2, v3, v4⟩ := t3 q' b1
        have hne : ¬ N (I (lid l 6) q') = t := fun e9 => b2 (t4 q' k b1 hk (by rw [v1.1, e9, ht]))
        exact ⟨v1, by simpa [rdI, hne] using v2, by simpa [rdI] using v3, by simpa using v4⟩
      · obtain ⟨a', b1, b2, b3, -, -, b6⟩ := num q hq
        obtain ⟨c', d1, d2, d3, -, -, d6⟩ := num q2 hq2
        rw [b3, d3] at he
        have := t4 a' c' b1 d1 he
        omega
      · have hne : ¬ t0 = t := fun e9 => by subst e9; exact nI_ne_m1 (j := l) (by omega) (by simpa [rdI] using he)
        obtain ⟨q, a1, a2⟩ := t5 t0 ht0 (by simpa [rdI, hne] using he)
        have hqk : q ≠ k := fun e9 => by
          subst e9
          rw [ht] at a2
          exact hne (nI_inj (by have := h.2.1.2.2.2.2.2.1.1.2; omega) htb a2.symm)
        by_cases eq : q = z
        · subst eq
          exact ⟨k, by omega, by simpa [Cmrem, upI_ne, upL_ne, rdI, rdL, lid_eq, lid_ne, ne_lid] using a2⟩
        · exact ⟨q, by omega, by simpa [Cmrem, upI_ne, upL_ne, rdI, rdL, lid_eq, lid_ne, ne_lid, hqk] using a2⟩
    · have hne : ¬ S 226 t = nI l := fun e9 => e (nI_inj (by omega) (by omega) (e9.symm.trans u2))
      rw [if_neg hne] at hc
      have tl := (h6 l hl).2.1
      unfold CRm at tl ⊢
      rw [e23, show Fcnt (upI S 226 t (-1)) l (N (S 30 23)) = Fcnt S l (N (S 30 23)) by omega]
      obtain ⟨w1, w2, w3, w4, w5⟩ := tl
      refine ⟨by simpa [Cmrem, upI_ne, upL_ne, rdI, rdL, lid_eq, lid_ne, ne_lid, e] using w1, w2, fun q hq => ?_, fun q q2 hq hq2 he => w4 q q2 hq hq2 (by simpa [Cmrem, upI_ne, upL_ne, rdI, rdL, lid_eq, lid_ne, ne_lid, e] using he), fun t0 ht0 he => ?_⟩
      · obtain ⟨v1, v2, v3, v4⟩ := w3 q hq
        have hne2 : ¬ N (I (lid l 6) q) = t := fun e9 => hne (by rw [← e9]; exact v2)
        exact ⟨by simpa [Cmrem, upI_ne, upL_ne, rdI, rdL, lid_eq, lid_ne, ne_lid, e] using v1, by simpa [Cmrem, upI_ne, upL_ne, rdI, rdL, lid_eq, lid_ne, ne_lid, e, hne2] using v2, by simpa [Cmrem, upI_ne, upL_ne, rdI, rdL, lid_eq, lid_ne, ne_lid, e] using v3, by simpa [Cmrem, upI_ne, upL_ne, rdI, rdL, lid_eq, lid_ne, ne_lid, e] using v4⟩
      · have hne2 : ¬ t0 = t := fun e9 => by subst e9; exact nI_ne_m1 (j := l) (by omega) (by simpa [rdI] using he)
        obtain ⟨q, a1, a2⟩ := w5 t0 ht0 (by simpa [rdI, hne2] using he)
        exact ⟨q, a1, by simpa [Cmrem, upI_ne, upL_ne, rdI, rdL, lid_eq, lid_ne, ne_lid, e] using a2⟩
  · exact CRl_cong (h6 l hl).2.2 (by simp [Cmrem, upI_ne, upL_ne, rdI, rdL, lid_eq, lid_ne, ne_lid]) (by simp [Cmrem, upI_ne, upL_ne, rdI, rdL, lid_eq, lid_ne, ne_lid]) (by simp [Cmrem, upI_ne, upL_ne, rdI, rdL, lid_eq, lid_ne, ne_lid]) (by simp [Cmrem, upI_ne, upL_ne, rdI, rdL, lid_eq, lid_ne, ne_lid]) (by simp [Cmrem, upI_ne, upL_ne, rdI, rdL, lid_eq, lid_ne, ne_lid]) (by simp [Cmrem, upI_ne, upL_ne, rdI, rdL, lid_eq, lid_ne, ne_lid]) (by simp [Cmrem, upI_ne, upL_ne, rdI, rdL, lid_eq, lid_ne, ne_lid]) (by simp [Cmrem, upI_ne, upL_ne, rdI, rdL, lid_eq, lid_ne, ne_lid]) (by simp [Cmrem, upI_ne, upL_ne, rdI, rdL, lid_eq, lid_ne, ne_lid]) (by simp [Cmrem, upI_ne, upL_ne, rdI, rdL, lid_eq, lid_ne, ne_lid]) (by simp [Cmrem, upI_ne, upL_ne, rdI, rdL, lid_eq, lid_ne, ne_lid]) (by simp [Cmrem, upI_ne, upL_ne, rdI, rdL, lid_eq, lid_ne, ne_lid])
  · simp [Cmrem, upI_ne, upL_ne, rdI, rdL, lid_eq, lid_ne, ne_lid, ne_lid (show i9 < 1000 by omega), show i9 ≠ 1 by omega, show i9 ≠ 2 by omega, show i9 ≠ 3 by omega, show i9 ≠ 4 by omega, show i9 ≠ 5 by omega, show i9 ≠ 6 by omega, show i9 ≠ 330 by omega, show i9 ≠ 340 by omega, show i9 ≠ 341 by omega, show i9 ≠ 342 by omega, show i9 ≠ 343 by omega, show i9 ≠ 350 by omega, show i9 ≠ 351 by omega, show i9 ≠ 352 by omega, show i9 ≠ 353 by omega, show i9 ≠ 354 by omega, show i9 ≠ 355 by omega, show i9 ≠ 360 by omega, show i9 ≠ 361 by omega, show i9 ≠ 362 by omega, show i9 ≠ 363 by omega, show i9 ≠ 364 by omega]
