/-! ===== timers that are due ===== -/
abbrev befo (dl : Nat → Int64) (nu : Nat → Int32) (k b : Nat) : Prop := if dl k = dl b then nu k < nu b else dl k < dl b
def Cfd (dl : Nat → Int64) (nu : Nat → Int32) (c : Int64) : Nat → Nat → Int32 → Int32
  | 0, _, b => b
  | m + 1, k, b => if dl k ≤ c ∧ (b = -1 ∨ befo dl nu k (N b)) then Cfd dl nu c m (k + 1) (nI k) else Cfd dl nu c m (k + 1) b
theorem i64_tri {a b : Int64} (h : ¬ a = b) (h2 : ¬ a < b) : b < a := by
  rcases Int64.lt_or_le b a with q | q
  · exact q
  · rcases Int64.le_iff_lt_or_eq.mp q with q | q
    · exact absurd q h2
    · exact absurd q h
theorem i32_tri {a b : Int32} (h : ¬ a = b) (h2 : ¬ a < b) : b < a := by
  rcases Int32.lt_or_le b a with q | q
  · exact q
  · rcases Int32.le_iff_lt_or_eq.mp q with q | q
    · exact absurd q h2
    · exact absurd q h
theorem befo_tr {dl : Nat → Int64} {nu : Nat → Int32} {a b c : Nat} (h1 : befo dl nu a b) (h2 : befo dl nu b c) : befo dl nu a c := by
  unfold befo at *
  by_cases e1 : dl a = dl b
  · rw [if_pos e1] at h1
    by_cases e2 : dl b = dl c
    · rw [if_pos e2] at h2
      rw [if_pos (e1.trans e2)]
      exact Int32.lt_trans h1 h2
    · rw [if_neg e2] at h2
      rw [if_neg (by rw [e1]; exact e2), e1]
      exact h2
  · rw [if_neg e1] at h1
    by_cases e2 : dl b = dl c
    · rw [if_pos e2] at h2
      rw [if_neg (by rw [← e2]; exact e1), ← e2]
      exact h1
    · rw [if_neg e2] at h2
      have h3 := Int64.lt_trans h1 h2
      rw [if_neg (fun e => by rw [e] at h3; exact Int64.lt_irrefl h3)]
      exact h3
theorem befo_no {dl : Nat → Int64} {nu : Nat → Int32} {a b : Nat} (hne : nu a ≠ nu b) (h : ¬ befo dl nu a b) : befo dl nu b a := by
  unfold befo at *
  by_cases e : dl a = dl b
  · rw [if_pos e] at h
    rw [if_pos e.symm]
    exact i32_tri hne h
  · rw [if_neg e] at h
    rw [if_neg (fun q => e q.symm)]
    exact i64_tri e h
/-- what the search knows: b is none of those that are due below k, or the first of them -/
def okB (dl : Nat → Int64) (nu : Nat → Int32) (c : Int64) (k : Nat) (b : Int32) : Prop := (b = -1 ∧ ∀ q, q < k → ¬ dl q ≤ c) ∨ ∃ j, j < k ∧ b = nI j ∧ dl j ≤ c ∧ ∀ q, q < k → dl q ≤ c → q = j ∨ befo dl nu j q
theorem okB_step {dl : Nat → Int64} {nu : Nat → Int32} {c : Int64} {k : Nat} {b : Int32} (h : okB dl nu c k b) (hk : k < 2 ^ 31) (hi : ∀ q, q < k → nu q ≠ nu k) : okB dl nu c (k + 1) (if dl k ≤ c ∧ (b = -1 ∨ befo dl nu k (N b)) then nI k else b) := by
  rcases h with ⟨rfl, h⟩ | ⟨j, hj, rfl, hd, h⟩
  · by_cases e : dl k ≤ c
    · rw [if_pos ⟨e, Or.inl rfl⟩]
      refine Or.inr ⟨k, by omega, rfl, e, fun q hq hqd => ?_⟩
      by_cases eq : q = k
      · exact Or.inl eq
      · exact absurd hqd (h q (by omega))
    · rw [if_neg (fun q => e q.1)]
      refine Or.inl ⟨rfl, fun q hq => ?_⟩
      by_cases eq : q = k
      · subst eq; exact e
      · exact h q (by omega)
  · rw [N_nI (show j < 2 ^ 31 by omega)]
    by_cases e : dl k ≤ c ∧ (nI j = -1 ∨ befo dl nu k j)
    · rw [if_pos e]
      have hb : befo dl nu k j := e.2.elim (fun q => absurd q.symm (nI_ne_m1 (by omega))) id
      refine Or.inr ⟨k, by omega, rfl, e.1, fun q hq hqd => ?_⟩
      by_cases eq : q = k
      · exact Or.inl eq
      · rcases h q (by omega) hqd with rfl | h2
        · exact Or.inr hb
        · exact Or.inr (befo_tr hb h2)
    · rw [if_neg e]
      refine Or.inr ⟨j, by omega, rfl, hd, fun q hq hqd => ?_⟩
      by_cases eq : q = k
      · subst eq
        exact Or.inr (befo_no (fun q9 => hi j hj q9.symm) (fun q9 => e ⟨hqd, Or.inr q9⟩))
      · exact h q (by omega) hqd
theorem okB_Cfd {dl : Nat → Int64} {nu : Nat → Int32} {c : Int64} {z : Nat} (hz : z ≤ 24) (hi : ∀ q q', q < z → q' < z → nu q = nu q' → q = q') : ∀ m k b, k + m = z → okB dl nu c k b → okB dl nu c z (Cfd dl nu c m k b)
  | 0, k, b, hk, h => by
    have : k = z := by omega
    subst this
    exact h
  | m + 1, k, b, hk, h => by
    have h2 := okB_step h (by omega) (fun q hq e => by have := hi q k (by omega) (by omega) e; omega)
    simp only [Cfd]
    by_cases e : dl k ≤ c ∧ (b = -1 ∨ befo dl nu k (N b))
    · rw [if_pos e] at h2 ⊢
      exact okB_Cfd hz hi m (k + 1) _ (by omega) h2
    · rw [if_neg e] at h2 ⊢
      exact okB_Cfd hz hi m (k + 1) _ (by omega) h2
/-- the reference's search -/
def Rfd (S : MI) (T : ML) (l : Nat) (c : Int64) : Nat → Int32
  | 0 => -1
  | t + 1 => if (S 226 t = nI l ∧ T 225 t ≤ c) ∧ (Rfd S T l c t < 0 ∨ T 225 t < T 225 (N (Rfd S T l c t))) then nI t else Rfd S T l c t
theorem Rfd_spec (S : MI) (T : ML) (l : Nat) (c : Int64) : ∀ m, m < 2 ^ 31 → (Rfd S T l c m = -1 ∧ ∀ t, t < m → ¬ (S 226 t = nI l ∧ T 225 t ≤ c)) ∨ ∃ j, j < m ∧ Rfd S T l c m = nI j ∧ S 226 j = nI l ∧ T 225 j ≤ c ∧ ∀ t, t < m → S 226 t = nI l → T 225 t ≤ c → t = j ∨ T 225 j < T 225 t ∨ (T 225 j = T 225 t ∧ j < t)
  | 0, _ => Or.inl ⟨rfl, fun t h => by omega⟩
  | m + 1, hm => by
    simp only [Rfd]
    rcases Rfd_spec S T l c m (by omega) with ⟨e, h⟩ | ⟨j, hj, e, hs, hd, h⟩
    · rw [e]
      by_cases e2 : S 226 m = nI l ∧ T 225 m ≤ c
      · rw [if_pos ⟨e2, Or.inl (by decide)⟩]
        refine Or.inr ⟨m, by omega, rfl, e2.1, e2.2, fun t ht h1 h2 => ?_⟩
        by_cases et : t = m
        · exact Or.inl et
        · exact absurd ⟨h1, h2⟩ (h t (by omega))
      · rw [if_neg (fun q => e2 q.1)]
        refine Or.inl ⟨rfl, fun t ht => ?_⟩
        by_cases et : t = m
        · subst et; exact e2
        · exact h t (by omega)
    · rw [e, N_nI (show j < 2 ^ 31 by omega)]
      by_cases e2 : (S 226 m = nI l ∧ T 225 m ≤ c) ∧ (nI j < 0 ∨ T 225 m < T 225 j)
      · rw [if_pos e2]
        have hlt : T 225 m < T 225 j := e2.2.elim (fun q => absurd q (nI_pos (by omega))) id
        refine Or.inr ⟨m, by omega, rfl, e2.1.1, e2.1.2, fun t ht h1 h2 => ?_⟩
        by_cases et : t = m
        · exact Or.inl et
        · rcases h t (by omega) h1 h2 with rfl | q | q
          · exact Or.inr (Or.inl hlt)
          · exact Or.inr (Or.inl (Int64.lt_trans hlt q))
          · exact Or.inr (Or.inl (by rw [← q.1]; exact hlt))
      · rw [if_neg e2]
        refine Or.inr ⟨j, by omega, rfl, hs, hd, fun t ht h1 h2 => ?_⟩
        by_cases et : t = m
        · subst et
          have hn : ¬ T 225 t < T 225 j := fun q => e2 ⟨⟨h1, h2⟩, Or.inr q⟩
          by_cases e3 : T 225 j = T 225 t
          · exact Or.inr (Or.inr ⟨e3, hj⟩)
          · exact Or.inr (Or.inl (i64_tri (fun q => e3 q.symm) hn))
        · exact h t (by omega) h1 h2
/-- both searches find the same timer -/
theorem due_same {n w nf fr : Nat} {S I J : MI} {T L M : ML} {i : Nat} (h : CX n S T w nf fr J M I L) (hi : i < n) (c : Int64) :
    (Cfd (L (lid i 8)) (I (lid i 6)) c (Fcnt S i (N (S 30 23))) 0 (-1) = -1 ∧ Rfd S T i c (N (S 30 23)) = -1) ∨ ∃ k t, k < Fcnt S i (N (S 30 23)) ∧ t < N (S 30 23) ∧ Cfd (L (lid i 8)) (I (lid i 6)) c (Fcnt S i (N (S 30 23))) 0 (-1) = nI k ∧ Rfd S T i c (N (S 30 23)) = nI t ∧ I (lid i 6) k = nI t ∧ S 226 t = nI i := by
  obtain ⟨m1, m2, m3, m4, m5⟩ := (h.1.2.2.2.2.2 i hi).2.1
  have hM := h.2.1.2.2.2.2.2.1.1.2
  have hB := okB_Cfd (dl := L (lid i 8)) (nu := I (lid i 6)) (c := c) m2 (fun q q' a b e => m4 q q' a b e) (Fcnt S i (N (S 30 23))) 0 (-1) (by omega) (Or.inl ⟨rfl, fun q hq => by omega⟩)
  rcases Rfd_spec S T i c (N (S 30 23)) (by omega) with ⟨r1, r2⟩ | ⟨t, t1, t2, t3, t4, t5⟩
  · left
    refine ⟨?_, r1⟩
    rcases hB with ⟨b1, -⟩ | ⟨k, k1, k2, k3, -⟩
    · exact b1
    · exfalso
      obtain ⟨u1, u2, u3, u4⟩ := m3 k k1
      exact r2 _ u1.2 ⟨u2, by rw [← u4]; exact k3⟩
  · right
    obtain ⟨k0, a1, a2⟩ := m5 t t1 t3
    have hN : N (nI t) = t := N_nI (by omega)
    have a3 := (m3 k0 a1).2.2.2
    rw [a2, hN] at a3
    rcases hB with ⟨-, b2⟩ | ⟨k, k1, k2, k3, k4⟩
    · exact absurd (by rw [a3]; exact t4) (b2 k0 a1)
    · refine ⟨k, t, k1, t1, k2, t2, ?_, t3⟩
      rcases k4 k0 a1 (by rw [a3]; exact t4) with e | hbf
      · rw [← e]; exact a2
      · exfalso
        obtain ⟨u1, u2, u3, u4⟩ := m3 k k1
        have hne : ¬ I (lid i 6) k = I (lid i 6) k0 := fun e9 => by
          have := m4 k k0 k1 a1 e9
          subst this
          unfold befo at hbf
          rw [if_pos rfl] at hbf
          exact Int32.lt_irrefl hbf
        unfold befo at hbf
        rw [u4, a3, a2] at hbf
        rcases t5 (N (I (lid i 6) k)) u1.2 u2 (by rw [← u4]; exact k3) with e | q | q
        · exact hne (by rw [u1.1, e, a2])
        · rw [if_neg (fun e9 => by rw [e9] at q; exact Int64.lt_irrefl q)] at hbf
          exact Int64.lt_irrefl (Int64.lt_trans q hbf)
        · rw [if_pos q.1.symm, u1.1] at hbf
          have := (nI_ltI (by have := u1.2; omega) (by omega)).mp hbf
          omega
section
variable (l : Launch) (n : Nat) (hn : n < 2 ^ 31) (d : Nat) (I : MI) (L : ML)
set_option maxHeartbeats 4000000 in
set_option maxRecDepth 100000 in
theorem c_firstDue_lp {Q : vq_R} (i z : Nat) (c : Int64) (hn : n < 2 ^ 31) (hi : i < n) (hz : I (lid i 2) 3 = nI z) (hzb : z ≤ 24) (hd : 1 ≤ d) : ∀ m k b, k + m = z → (b = -1 ∨ ∃ j, j < 24 ∧ b = nI j) → Q (some (.int (Cfd (L (lid i 8)) (I (lid i 6)) c m k b))) I L → VP l n m_X7_firstDue d 0 Q noX 0 5 [(4, .int (nI k)), (3, .int b), (0, .ref (lid i 2)), (1, .long c)] [] I L := by
  intro m
  induction m with
  | zero =>
    intro k b hk hb hQ
    refine q_iload dX7_firstDue_5 rfl ?_
    refine q_aload_n dX7_firstDue_7 rfl ?_
    refine q_getI (lid i 2) 7 3 (vq_isL hi 2 (by decide) rfl) (by decide) rfl (by decide) f_X7_22 rfl dX7_firstDue_8 ?_
    refine q_icmp_ge 50 dX7_firstDue_11 (by decide) (fun h11 => ?_) (fun h11 => ?_)
    · refine q_iload_n dX7_firstDue_50 rfl ?_
      exact q_iret dX7_firstDue_51 rfl (by omega) hQ
    · exact absurd (by rw [hz]; exact nI_le (by omega) (by omega)) h11
  | succ m ih =>
    intro k b hk hb hQ
    simp only [Cfd] at hQ
    have NXT : ∀ b', (b' = -1 ∨ ∃ j, j < 24 ∧ b' = nI j) → Q (some (.int (Cfd (L (lid i 8)) (I (lid i 6)) c m (k + 1) b'))) I L → VP l n m_X7_firstDue d 0 Q noX 0 44 [(3, .int b'), (4, .int (nI k)), (0, .ref (lid i 2)), (1, .long c)] [] I L := by
      intro b' hb' hQ'
      refine q_iinc [(4, _), (3, _), (0, _), (1, _)] (nI (k + 1)) dX7_firstDue_44 rfl (nI_1 k) (by decide) rfl ?_
      refine q_goto 5 dX7_firstDue_47 (by decide) ?_
      exact ih (k + 1) b' (by omega) hb' hQ'
    refine q_iload dX7_firstDue_5 rfl ?_
    refine q_aload_n dX7_firstDue_7 rfl ?_
    refine q_getI (lid i 2) 7 3 (vq_isL hi 2 (by decide) rfl) (by decide) rfl (by decide) f_X7_22 rfl dX7_firstDue_8 ?_
    refine q_icmp_ge 50 dX7_firstDue_11 (by decide) (fun h11 => ?_) (fun h11 => ?_)
    · exact absurd h11 (by rw [hz]; exact nI_ge (by omega) (by omega))
    · refine q_aload_n dX7_firstDue_14 rfl ?_
      refine q_getR (lid i 2) 7 2 (lid i 8) (vq_isL hi 2 (by decide) rfl) (by decide) rfl ((gr_lid i 2 2 (by decide)).trans rfl) (by decide) f_X7_18 rfl dX7_firstDue_15 ?_
      refine q_iload dX7_firstDue_18 rfl ?_
      refine q_lald (lid i 8) (k) hn (vq_isL hi 8 (by decide) rfl) rfl (by rw [gl_lid]; omega) dX7_firstDue_20 ?_
      refine q_lload_n dX7_firstDue_21 rfl ?_
      refine q_lcmp dX7_firstDue_22 ?_
      refine q_if_gt 44 dX7_firstDue_23 (by decide) (fun h23 => ?_) (fun h23 => ?_)
      · rw [lg_cmp_gt] at h23
        rw [if_neg (fun q => absurd q.1 (Int64.not_le.mpr h23))] at hQ
        exact q_lv _ (by simp) (NXT b hb hQ)
      · rw [lg_cmp_gt, Int64.not_lt] at h23
        refine q_iload_n dX7_firstDue_26 rfl ?_
        refine q_iconst (-1) dX7_firstDue_27 (by decide) ?_
        refine q_icmp_eq 41 dX7_firstDue_28 (by decide) (fun h28 => ?_) (fun h28 => ?_)
        · rw [if_pos ⟨h23, Or.inl h28⟩] at hQ
          refine q_iload dX7_firstDue_41 rfl ?_
          refine q_istore_n [(3, _), (4, _), (0, _), (1, _)] dX7_firstDue_43 (by decide) rfl ?_
          exact NXT (nI k) (Or.inr ⟨k, by omega, rfl⟩) hQ
        · obtain ⟨j, hj, rfl⟩ := hb.resolve_left h28
          rw [N_nI (by omega)] at hQ
          refine q_aload_n dX7_firstDue_31 rfl ?_
          refine q_iload dX7_firstDue_32 rfl ?_
          refine q_iload_n dX7_firstDue_34 rfl ?_
          refine q_calli [.int _, .int _] o_X7_isBefore rfl k_X7_26 rfl (vq_isL hi 2 (by decide) rfl) (by decide) rfl dX7_firstDue_35 (by decide) (by omega) (by decide) (by omega) (Or.inr rfl) (c_isBefore l n (d - 1) I L i k j hn hi (by omega) hj) (fun _ _ _ h => h.elim) (fun r1 I1 L1 hq => ?_)
          obtain ⟨e1, e2, e3⟩ := hq
          cases e1
          cases e2.symm
          cases e3.symm
          refine q_if_eq 44 dX7_firstDue_38 (by decide) (fun h38 => ?_) (fun h38 => ?_)
          · rw [bI_z] at h38
            rw [if_neg (fun q => q.2.elim h28 h38)] at hQ
            exact q_lv _ (by simp) (NXT (nI j) hb hQ)
          · rw [bI_z, Decidable.not_not] at h38
            rw [if_pos ⟨h23, Or.inr h38⟩] at hQ
            refine q_iload dX7_firstDue_41 rfl ?_
            refine q_istore_n [(3, _), (4, _), (0, _), (1, _)] dX7_firstDue_43 (by decide) rfl ?_
            exact NXT (nI k) (Or.inr ⟨k, by omega, rfl⟩) hQ
set_option maxHeartbeats 4000000 in
set_option maxRecDepth 100000 in
theorem c_firstDue (i z : Nat) (c : Int64) (hn : n < 2 ^ 31) (hi : i < n) (hz : I (lid i 2) 3 = nI z) (hzb : z ≤ 24) (hd : 1 ≤ d) : VM l n m_X7_firstDue d 0 [.ref (lid i 2), .long c] I L (fun r I' L' => r = some (.int (Cfd (L (lid i 8)) (I (lid i 6)) c z 0 (-1))) ∧ I' = I ∧ L' = L) noX := by
  refine VM_of _ [(0, .ref (lid i 2)), (1, .long c)] rfl (fun a => Nat.le_of_ble_eq_true rfl) rfl ?_
  refine q_iconst (-1) dX7_firstDue_0 (by decide) ?_
  refine q_istore_n [(3, _), (0, _), (1, _)] dX7_firstDue_1 (by decide) rfl ?_
  refine q_iconst (0) dX7_firstDue_2 (by decide) ?_
  refine q_istore [(4, _), (3, _), (0, _), (1, _)] dX7_firstDue_3 (by decide) rfl ?_
  exact c_firstDue_lp l n d I L i z c hn hi hz hzb hd z 0 (-1) (by omega) (Or.inl rfl) ⟨rfl, rfl, rfl⟩
end

