/-! ===== the queues ===== -/
theorem CRq_cong2 {S S' I I' : MI} {l : Nat} (h : CRq S I l) (h1 : S' 209 l = S 209 l) (h2 : ∀ i, i < N (S 209 l) → S' 211 (24 * l + i) = S 211 (24 * l + i)) (h3 : ∀ i, i < N (S 209 l) → S' 212 (24 * l + i) = S 212 (24 * l + i)) (h4 : ∀ i, i < N (S 209 l) → S' 213 (24 * l + i) = S 213 (24 * l + i)) (i1 : I' (lid l 1) = I (lid l 1)) (i3 : I' (lid l 3) = I (lid l 3)) (i4 : I' (lid l 4) = I (lid l 4)) (i5 : I' (lid l 5) = I (lid l 5)) : CRq S' I' l := by
  unfold CRq at h ⊢
  rw [h1, i1, i3, i4, i5]
  obtain ⟨a, f, b, c, e⟩ := h
  refine ⟨a, f, b, c, fun i hi => ?_⟩
  rw [h2 i hi, h3 i hi, h4 i hi]
  exact e i hi
/-- what may stand in a queue -/
def okQ (S : MI) (k x : Int32) : Prop := (k = 2 ∧ nbt x (N (S 30 34))) ∨ ((k = 0 ∨ k = 1) ∧ nbt x (N (S 30 3)))
theorem Inv_enq0 {n : Nat} {S : MI} {i : Nat} {k x m : Int32} (h : Inv n S) (hi : i < n) (hq : N (S 209 i) < 24) (hk : okQ S k x) : Inv n (Fenq0 S i k x m) := by
  obtain ⟨h1, h2, h3, h4, h5, h6, h7, h8⟩ := h
  have e9 : S 209 i + 1 = nI (N (S 209 i) + 1) := nI_add1 (h7 i hi).1.1.1
  refine ⟨h1, by simp [Fenq0, rdI, h2], InvT_cong h3 (by simp [Fenq0, rdI]) (by simp [Fenq0, upI_ne]), InvP_cong h4 (by simp [Fenq0, rdI]) (by simp [Fenq0, rdI]) (by simp [Fenq0, upI_ne]) (by simp [Fenq0, upI_ne]) (by simp [Fenq0, upI_ne]), InvC_cong h5 (by simp [Fenq0, rdI]) (by simp [Fenq0, rdI]) (by simp [Fenq0, upI_ne]) (by simp [Fenq0, upI_ne]) (by simp [Fenq0, upI_ne]) (by simp [Fenq0, upI_ne]), InvM_cong h6 (by simp [Fenq0, rdI]) (by simp [Fenq0, rdI]) (by simp [Fenq0, upI_ne]) (by simp [Fenq0, upI_ne]), fun l hl => ⟨?_, InvB_cong (h7 l hl).2.1 (by simp [Fenq0, rdI]) (by simp [Fenq0, rdI]) (by simp [Fenq0, rdI]) (by simp [Fenq0, rdI]) (by simp [Fenq0, rdI]) (by simp [Fenq0, rdI]), InvS_cong (h7 l hl).2.2 (by simp [Fenq0, rdI])⟩, by simp [Fenq0, rdI]; exact h8⟩
  by_cases e : l = i
  · subst e
    have e2 : Fenq0 S l k x m 209 l = nI (N (S 209 l) + 1) := by simp [Fenq0, rdI, e9]
    have e3 : N (Fenq0 S l k x m 209 l) = N (S 209 l) + 1 := by rw [e2]; exact N_nI (by omega)
    unfold InvQ
    rw [e3]
    refine ⟨nb_of e2 (by omega) (by decide), fun j hj => ?_⟩
    by_cases ej : j = N (S 209 l)
    · subst ej
      simpa [Fenq0, rdI, okQ] using hk
    · have := (h7 l hl).1.2 j (by omega)
      simpa [Fenq0, rdI, ej] using this
  · refine InvQ_cong (h7 l hl).1 (by simp [Fenq0, rdI]) (by simp [Fenq0, rdI]) (by simp [Fenq0, rdI, e]) (fun j hj => ?_) (fun j hj => ?_)
    · have hb := (h7 l hl).1.1.2
      have : ¬ 24 * l + j = 24 * i + N (S 209 i) := by omega
      simp [Fenq0, rdI, this]
    · have hb := (h7 l hl).1.1.2
      have : ¬ 24 * l + j = 24 * i + N (S 209 i) := by omega
      simp [Fenq0, rdI, this]
theorem CX_enq0 {n w nf fr : Nat} {S I J : MI} {T L M : ML} {i f : Nat} {k x m : Int32} (h : CX n S T w nf fr J M I L) (hi : i < n) (hq : N (S 209 i) < 24) (hk : okQ S k x) (hf : f < 24) (hfe : I (lid i 1) 3 = nI f) : CX n (Fenq0 S i k x m) T w nf fr J M (Cqput I i ((f + N (S 209 i)) % 24) k x m) L := by
  obtain ⟨h1, h2, h3, h4, h5, h6⟩ := id h.1
  have hV := h.2.1.2.2.2.2.2.2.1
  refine CX_of h ⟨?_, ?_, ?_, ?_, ?_, fun l hl => ⟨?_, ?_, ?_⟩⟩ (Inv_enq0 h.2.1 hi hq hk) (by simp [Cqput, upI_ne, ne_lid]) (fun i h7 h8 => ?_)
  · simpa [CRt, Fenq0, Cqput, upI_ne, rdI, ne_lid] using h1
  · simpa [CRk, Fenq0, Cqput, upI_ne, rdI, ne_lid] using h2
  · simpa [CRp, Fenq0, Cqput, upI_ne, rdI, ne_lid] using h3
  · simpa [CRc, Fenq0, Cqput, upI_ne, rdI, ne_lid] using h4
  · simpa [CRs, Fenq0, Cqput, upI_ne, rdI, ne_lid] using h5
  · by_cases e : l = i
    · subst e
      obtain ⟨q1, f', q2, q3, q4⟩ := (h6 l hl).1
      have e9 : S 209 l + 1 = nI (N (S 209 l) + 1) := nI_add1 (hV l hl).1.1.1
      have e2 : Fenq0 S l k x m 209 l = nI (N (S 209 l) + 1) := by simp [Fenq0, rdI, e9]
      have e3 : N (Fenq0 S l k x m 209 l) = N (S 209 l) + 1 := by rw [e2]; exact N_nI (by omega)
      have ef : f' = f := by
        have := q3.symm.trans hfe
        exact (nI_eq (by omega) (by omega)).mp this
      subst ef
      refine ⟨by simp [Fenq0, Cqput, rdI, q1], f', q2, by simpa [Cqput, rdI, lid_eq] using q3, fun j hj => ?_⟩
      rw [e3] at hj
      by_cases ej : j = N (S 209 l)
      · subst ej
        simp [Fenq0, Cqput, rdI, lid_eq]
      · have := q4 j (by omega)
        have em : ¬ (f' + j) % 24 = (f' + N (S 209 l)) % 24 := by omega
        simpa [Fenq0, Cqput, rdI, lid_eq, ej, em] using this
    · refine CRq_cong2 (h6 l hl).1 (by simp [Fenq0, rdI, e]) (fun j hj => ?_) (fun j hj => ?_) (fun j hj => ?_) (by simp [Cqput, upI_ne, lid_eq, e]) (by simp [Cqput, upI_ne, lid_eq, e]) (by simp [Cqput, upI_ne, lid_eq, e]) (by simp [Cqput, upI_ne, lid_eq, e])
      all_goals
        have hb := (hV l hl).1.1.2
        have : ¬ 24 * l + j = 24 * i + N (S 209 i) := by omega
        simp [Fenq0, rdI, this]
  · exact CRm_cong (h6 l hl).2.1 (by simp [Fenq0, rdI]) (by simp [Fenq0, upI_ne]) (by simp [Fenq0, upI_ne]) rfl (by simp [Cqput, upI_ne, lid_eq]) (by simp [Cqput, upI_ne, lid_eq]) (by simp [Cqput, upI_ne, lid_eq]) rfl
  · exact CRl_cong (h6 l hl).2.2 (by simp [Fenq0, rdI]) (by simp [Fenq0, rdI]) (by simp [Fenq0, rdI]) (by simp [Fenq0, rdI]) (by simp [Fenq0, rdI]) (by simp [Fenq0, rdI]) rfl rfl rfl rfl (by simp [Cqput, upI_ne, lid_eq]) rfl
  · simp [Cqput, upI_ne, ne_lid (show i < 1000 by omega)]
theorem Fenq_comm {S : MI} {i : Nat} {k x m : Int32} (hq : S 30 41 = nI (tr S)) : Fenq0 (Fbec S i 2) i k x m = Fbec (Fenq0 S i k x m) i 2 := by
  have e1 : N (upI S 208 i 2 30 41) = tr S := by simp [rdI, tr]
  have e2 : N (upI (Fenq0 S i k x m) 208 i 2 30 41) = tr S := by simp [Fenq0, rdI, tr]
  have e3 : N (Fbec S i 2 209 i) = N (S 209 i) := by simp [Fbec, Flog, Rlog, rdI]
  have e4 : Fbec S i 2 209 i = S 209 i := by simp [Fbec, Flog, Rlog, rdI]
  unfold Fenq0
  rw [e3, e4]
  unfold Fbec Flog Rlog
  rw [e1]
  funext a b
  simp only [rdI]
  have e5 : N (if 30 = 209 ∧ 41 = i then S 209 i + 1 else if 30 = 213 ∧ 41 = 24 * i + N (S 209 i) then m else if 30 = 212 ∧ 41 = 24 * i + N (S 209 i) then x else if 30 = 211 ∧ 41 = 24 * i + N (S 209 i) then k else S 30 41) = tr S := by simp [tr]
  simp only [show (30 = 208 ∧ 41 = i) = False by simp, if_false, e5]
  by_cases ha : a = 209
  · subst ha; simp
  · by_cases ha : a = 211
    · subst ha; simp
    · by_cases ha : a = 212
      · subst ha; simp
      · by_cases ha : a = 213
        · subst ha; simp
        · simp [*]
theorem i32_4 {s : Int32} : (4 ≤ s) = (3 < s) := by
  simp only [eq_iff_iff, Int32.lt_iff_toInt_lt, Int32.le_iff_toInt_le, show (4 : Int32).toInt = 4 from rfl, show (3 : Int32).toInt = 3 from rfl]
  omega
theorem nb_24 {x : Int32} (h : nb x 24) : (24 ≤ x) = (x = 24) := by
  obtain ⟨h1, h2⟩ := h
  rw [h1, show (24 : Int32) = nI 24 from rfl, nI_leI (by omega) (by omega), eq_iff_iff, nI_eq (by omega) (by omega)]
  omega
theorem nb_lt {x : Int32} (h : nb x 24) (h9 : ¬ x = 24) : N x < 24 := by
  obtain ⟨h1, h2⟩ := h
  rcases Nat.lt_or_ge (N x) 24 with q | q
  · exact q
  · exact absurd (by rw [h1, show N x = 24 by omega]; rfl) h9
section
variable (l : Launch) (n : Nat) (hn : n < 2 ^ 31) (d : Nat) (I : MI) (L : ML)
set_option maxHeartbeats 4000000 in
set_option maxRecDepth 100000 in
theorem c_enqueue {S J : MI} {T M : ML} {w nf fr : Nat} (tg : Nat) (th k x m : Int32) (hn : n < 2 ^ 31) (h : CX n S T w nf fr J M I L) (htg : tg < n) (hk : okQ S k x) (hb : tr S + 1 < 2 ^ 31) (hd : 2 ≤ d) : VM l n m_X5_enqueue d 0 [.ref 2, .int th, .int (nI tg), .int k, .int x, .int m] I L (fun r I' L' => r = some (.int (bI (¬ rej S tg))) ∧ CX n (Fput S th tg k x m (if k = 2 then -1 else x)) T w nf fr J M I' L') noX := by
  refine VM_of _ [(0, .ref 2), (1, .int th), (2, .int (nI tg)), (3, .int k), (4, .int x), (5, .int m)] rfl (fun a => Nat.le_of_ble_eq_true rfl) rfl ?_
  have hst : I (lid tg 0) 2 = S 208 tg := (h.1.2.2.2.2.2 tg htg).2.2.1
  have hsz : I (lid tg 1) 4 = S 209 tg := (h.1.2.2.2.2.2 tg htg).1.1
  have hnb := (h.2.1.2.2.2.2.2.2.1 tg htg).1.1
  have hvS := (h.2.1.2.2.2.2.2.2.1 tg htg).2.2
  have hc := CX_cnt h
  obtain ⟨-, f, hf, hfe, -⟩ := (h.1.2.2.2.2.2 tg htg).1
  refine q_aload_n dX5_enqueue_0 rfl ?_
  refine q_getR 2 5 1 321 (is_2 n) (by decide) rfl rfl (by decide) f_X5_20 rfl dX5_enqueue_1 ?_
  refine q_iload_n dX5_enqueue_4 rfl ?_
  refine q_aald 321 (tg) (lid (tg) 0) hn (is_321 n) rfl htg rfl dX5_enqueue_5 ?_
  refine q_astore [(6, _), (0, _), (1, _), (2, _), (3, _), (4, _), (5, _)] dX5_enqueue_6 (by decide) rfl ?_
  refine q_aload dX5_enqueue_8 rfl ?_
  refine q_getI (lid tg 0) 1 2 (vq_isL htg 0 (by decide) rfl) (by decide) rfl (by decide) f_X5_35 rfl dX5_enqueue_10 ?_
  refine q_iconst (4) dX5_enqueue_13 (by decide) ?_
  refine q_icmp_ge 28 dX5_enqueue_14 (by decide) (fun h14 => ?_) (fun h14 => ?_)
  · refine q_aload_n dX5_enqueue_28 rfl ?_
    refine q_getR 2 5 0 3 (is_2 n) (by decide) rfl rfl (by decide) f_X5_12 rfl dX5_enqueue_29 ?_
    refine q_iload_n dX5_enqueue_32 rfl ?_
    refine q_iconst (4) dX5_enqueue_33 (by decide) ?_
    refine q_iload_n dX5_enqueue_34 rfl ?_
    refine q_iconst (2) dX5_enqueue_35 (by decide) ?_
    refine q_icmp_ne 43 dX5_enqueue_36 (by decide) (fun h36 => ?_) (fun h36 => ?_)
    · refine q_iload dX5_enqueue_43 rfl ?_
      refine q_callv [.int _, .int _, .int _] o_X8_log rfl k_X5_48 rfl (is_3 n) (by decide) rfl dX5_enqueue_45 (by decide) (by omega) (by decide) (by omega) rfl (c_log l n hn (d - 1) _ L (tr S) th 4 _ (by exact hc) (by omega)) (fun _ _ _ h => h.elim) (fun I2 L2 hq => ?_)
      obtain ⟨-, e2, e3⟩ := hq; subst e2; cases e3.symm
      refine q_iconst (0) dX5_enqueue_48 (by decide) ?_
      refine q_zret dX5_enqueue_49 rfl (by omega) (by decide) ?_
      ((try rw [hst, i32_4] at h14); (try simp only [bI_z, nb_24 hnb, ne_eq, Decidable.not_not] at h25); (try rw [hst] at h56); first | (have hr : rej S tg := (by first | exact Or.inl h14 | exact Or.inr h25); refine ⟨by rw [bI_f (fun q => q hr)], ?_⟩; rw [Fput, if_pos hr]; simpa [h36] using CX_log th 4 _ h hb) | (have hr : ¬ rej S tg := (fun q => q.elim h14 h25); refine ⟨by rw [bI_t hr], ?_⟩; rw [Fput, if_neg hr]; unfold Fenq; first | (rw [if_neg h56]; exact CX_enq0 h htg (nb_lt hnb h25) hk hf hfe) | (rw [if_pos h56, ← Fenq_comm (Inv_tr h.2.1)]; exact (by have h9 := (CX_bec (i := tg) (s := 2) h hb (by decide) (fun q => absurd q (by decide))).1; have e9 : Fbec S tg 2 209 tg = S 209 tg := (by simp [Fbec, Flog, Rlog, rdI]); have := CX_enq0 (i := tg) (f := f) (k := k) (x := x) (m := m) h9 htg (by rw [e9]; exact nb_lt hnb h25) (by simpa [okQ, Fbec, Flog, Rlog, rdI] using hk) hf (by simp [Cbec, Clog, rdI, lid_eq, lid_ne, hfe]); rw [e9] at this; exact this))))
    · refine q_iconst (-1) dX5_enqueue_39 (by decide) ?_
      refine q_goto 45 dX5_enqueue_40 (by decide) ?_
      refine q_callv [.int _, .int _, .int _] o_X8_log rfl k_X5_48 rfl (is_3 n) (by decide) rfl dX5_enqueue_45 (by decide) (by omega) (by decide) (by omega) rfl (c_log l n hn (d - 1) _ L (tr S) th 4 _ (by exact hc) (by omega)) (fun _ _ _ h => h.elim) (fun I2 L2 hq => ?_)
      obtain ⟨-, e2, e3⟩ := hq; subst e2; cases e3.symm
      refine q_iconst (0) dX5_enqueue_48 (by decide) ?_
      refine q_zret dX5_enqueue_49 rfl (by omega) (by decide) ?_
      ((try rw [hst, i32_4] at h14); (try simp only [bI_z, nb_24 hnb, ne_eq, Decidable.not_not] at h25); (try rw [hst] at h56); first | (have hr : rej S tg := (by first | exact Or.inl h14 | exact Or.inr h25); refine ⟨by rw [bI_f (fun q => q hr)], ?_⟩; rw [Fput, if_pos hr]; simpa [h36] using CX_log th 4 _ h hb) | (have hr : ¬ rej S tg := (fun q => q.elim h14 h25); refine ⟨by rw [bI_t hr], ?_⟩; rw [Fput, if_neg hr]; unfold Fenq; first | (rw [if_neg h56]; exact CX_enq0 h htg (nb_lt hnb h25) hk hf hfe) | (rw [if_pos h56, ← Fenq_comm (Inv_tr h.2.1)]; exact (by have h9 := (CX_bec (i := tg) (s := 2) h hb (by decide) (fun q => absurd q (by decide))).1; have e9 : Fbec S tg 2 209 tg = S 209 tg := (by simp [Fbec, Flog, Rlog, rdI]); have := CX_enq0 (i := tg) (f := f) (k := k) (x := x) (m := m) h9 htg (by rw [e9]; exact nb_lt hnb h25) (by simpa [okQ, Fbec, Flog, Rlog, rdI] using hk) hf (by simp [Cbec, Clog, rdI, lid_eq, lid_ne, hfe]); rw [e9] at this; exact this))))
  · refine q_aload dX5_enqueue_17 rfl ?_
    refine q_getR (lid tg 0) 1 0 (lid tg 1) (vq_isL htg 0 (by decide) rfl) (by decide) rfl ((gr_lid tg 0 0 (by decide)).trans rfl) (by decide) f_X5_38 rfl dX5_enqueue_19 ?_
    refine q_calli [] o_X3_isFull rfl k_X5_42 rfl (vq_isL htg 1 (by decide) rfl) (by decide) rfl dX5_enqueue_22 (by decide) (by omega) (by decide) (by omega) (Or.inr rfl) (c_isFull l n (d - 1) I L tg htg) (fun _ _ _ h => h.elim) (fun r1 I1 L1 hq => ?_)
    obtain ⟨e1, e2, e3⟩ := hq; cases e1; cases e2.symm; cases e3.symm; rw [hsz]
    refine q_if_eq 50 dX5_enqueue_25 (by decide) (fun h25 => ?_) (fun h25 => ?_)
    · refine q_aload dX5_enqueue_50 rfl ?_
      refine q_getI (lid tg 0) 1 2 (vq_isL htg 0 (by decide) rfl) (by decide) rfl (by decide) f_X5_35 rfl dX5_enqueue_52 ?_
      refine q_iconst (1) dX5_enqueue_55 (by decide) ?_
      refine q_icmp_ne 65 dX5_enqueue_56 (by decide) (fun h56 => ?_) (fun h56 => ?_)
      · refine q_aload dX5_enqueue_65 rfl ?_
        refine q_getR (lid tg 0) 1 0 (lid tg 1) (vq_isL htg 0 (by decide) rfl) (by decide) rfl ((gr_lid tg 0 0 (by decide)).trans rfl) (by decide) f_X5_38 rfl dX5_enqueue_67 ?_
        refine q_iload_n dX5_enqueue_70 rfl ?_
        refine q_iload dX5_enqueue_71 rfl ?_
        refine q_iload dX5_enqueue_73 rfl ?_
        refine q_callv [.int _, .int _, .int _] o_X3_put rfl k_X5_56 rfl (vq_isL htg 1 (by decide) rfl) (by decide) rfl dX5_enqueue_75 (by decide) (by omega) (by decide) (by omega) rfl (c_qput l n (d - 1) _ L tg f (N (S 209 tg)) k x m hn htg (by simp [Cbec, Clog, rdI, lid_eq, lid_ne, hfe]) (by simp [Cbec, Clog, rdI, lid_eq, lid_ne, hsz]; exact hnb.1) hf (nb_lt hnb (by simpa [bI_z, nb_24 hnb] using h25))) (fun _ _ _ h => h.elim) (fun I3 L3 hq => ?_)
        obtain ⟨-, e2, e3⟩ := hq; subst e2; cases e3.symm
        refine q_iconst (1) dX5_enqueue_78 (by decide) ?_
        refine q_zret dX5_enqueue_79 rfl (by omega) (by decide) ?_
        ((try rw [hst, i32_4] at h14); (try simp only [bI_z, nb_24 hnb, ne_eq, Decidable.not_not] at h25); (try rw [hst] at h56); first | (have hr : rej S tg := (by first | exact Or.inl h14 | exact Or.inr h25); refine ⟨by rw [bI_f (fun q => q hr)], ?_⟩; rw [Fput, if_pos hr]; simpa [h36] using CX_log th 4 _ h hb) | (have hr : ¬ rej S tg := (fun q => q.elim h14 h25); refine ⟨by rw [bI_t hr], ?_⟩; rw [Fput, if_neg hr]; unfold Fenq; first | (rw [if_neg h56]; exact CX_enq0 h htg (nb_lt hnb h25) hk hf hfe) | (rw [if_pos h56, ← Fenq_comm (Inv_tr h.2.1)]; exact (by have h9 := (CX_bec (i := tg) (s := 2) h hb (by decide) (fun q => absurd q (by decide))).1; have e9 : Fbec S tg 2 209 tg = S 209 tg := (by simp [Fbec, Flog, Rlog, rdI]); have := CX_enq0 (i := tg) (f := f) (k := k) (x := x) (m := m) h9 htg (by rw [e9]; exact nb_lt hnb h25) (by simpa [okQ, Fbec, Flog, Rlog, rdI] using hk) hf (by simp [Cbec, Clog, rdI, lid_eq, lid_ne, hfe]); rw [e9] at this; exact this))))
      · refine q_aload_n dX5_enqueue_59 rfl ?_
        refine q_iload_n dX5_enqueue_60 rfl ?_
        refine q_iconst (2) dX5_enqueue_61 (by decide) ?_
        refine q_callv [.int _, .int _] o_X5_become rfl k_X5_52 rfl (is_2 n) (by decide) rfl dX5_enqueue_62 (by decide) (by omega) (by decide) (by omega) rfl (c_become l n (d - 1) _ L tg (tr S) 2 hn htg (by exact hc) (by omega) (by omega)) (fun _ _ _ h => h.elim) (fun I2 L2 hq => ?_)
        obtain ⟨-, e2, e3⟩ := hq; subst e2; cases e3.symm
        refine q_aload dX5_enqueue_65 rfl ?_
        refine q_getR (lid tg 0) 1 0 (lid tg 1) (vq_isL htg 0 (by decide) rfl) (by decide) rfl ((gr_lid tg 0 0 (by decide)).trans rfl) (by decide) f_X5_38 rfl dX5_enqueue_67 ?_
        refine q_iload_n dX5_enqueue_70 rfl ?_
        refine q_iload dX5_enqueue_71 rfl ?_
        refine q_iload dX5_enqueue_73 rfl ?_
        refine q_callv [.int _, .int _, .int _] o_X3_put rfl k_X5_56 rfl (vq_isL htg 1 (by decide) rfl) (by decide) rfl dX5_enqueue_75 (by decide) (by omega) (by decide) (by omega) rfl (c_qput l n (d - 1) _ L tg f (N (S 209 tg)) k x m hn htg (by simp [Cbec, Clog, rdI, lid_eq, lid_ne, hfe]) (by simp [Cbec, Clog, rdI, lid_eq, lid_ne, hsz]; exact hnb.1) hf (nb_lt hnb (by simpa [bI_z, nb_24 hnb] using h25))) (fun _ _ _ h => h.elim) (fun I3 L3 hq => ?_)
        obtain ⟨-, e2, e3⟩ := hq; subst e2; cases e3.symm
        refine q_iconst (1) dX5_enqueue_78 (by decide) ?_
        refine q_zret dX5_enqueue_79 rfl (by omega) (by decide) ?_
        ((try rw [hst, i32_4] at h14); (try simp only [bI_z, nb_24 hnb, ne_eq, Decidable.not_not] at h25); (try rw [hst] at h56); first | (have hr : rej S tg := (by first | exact Or.inl h14 | exact Or.inr h25); refine ⟨by rw [bI_f (fun q => q hr)], ?_⟩; rw [Fput, if_pos hr]; simpa [h36] using CX_log th 4 _ h hb) | (have hr : ¬ rej S tg := (fun q => q.elim h14 h25); refine ⟨by rw [bI_t hr], ?_⟩; rw [Fput, if_neg hr]; unfold Fenq; first | (rw [if_neg h56]; exact CX_enq0 h htg (nb_lt hnb h25) hk hf hfe) | (rw [if_pos h56, ← Fenq_comm (Inv_tr h.2.1)]; exact (by have h9 := (CX_bec (i := tg) (s := 2) h hb (by decide) (fun q => absurd q (by decide))).1; have e9 : Fbec S tg 2 209 tg = S 209 tg := (by simp [Fbec, Flog, Rlog, rdI]); have := CX_enq0 (i := tg) (f := f) (k := k) (x := x) (m := m) h9 htg (by rw [e9]; exact nb_lt hnb h25) (by simpa [okQ, Fbec, Flog, Rlog, rdI] using hk) hf (by simp [Cbec, Clog, rdI, lid_eq, lid_ne, hfe]); rw [e9] at this; exact this))))
    · refine q_aload_n dX5_enqueue_28 rfl ?_
      refine q_getR 2 5 0 3 (is_2 n) (by decide) rfl rfl (by decide) f_X5_12 rfl dX5_enqueue_29 ?_
      refine q_iload_n dX5_enqueue_32 rfl ?_
      refine q_iconst (4) dX5_enqueue_33 (by decide) ?_
      refine q_iload_n dX5_enqueue_34 rfl ?_
      refine q_iconst (2) dX5_enqueue_35 (by decide) ?_
      refine q_icmp_ne 43 dX5_enqueue_36 (by decide) (fun h36 => ?_) (fun h36 => ?_)
      · refine q_iload dX5_enqueue_43 rfl ?_
        refine q_callv [.int _, .int _, .int _] o_X8_log rfl k_X5_48 rfl (is_3 n) (by decide) rfl dX5_enqueue_45 (by decide) (by omega) (by decide) (by omega) rfl (c_log l n hn (d - 1) _ L (tr S) th 4 _ (by exact hc) (by omega)) (fun _ _ _ h => h.elim) (fun I2 L2 hq => ?_)
        obtain ⟨-, e2, e3⟩ := hq; subst e2; cases e3.symm
        refine q_iconst (0) dX5_enqueue_48 (by decide) ?_
        refine q_zret dX5_enqueue_49 rfl (by omega) (by decide) ?_
        ((try rw [hst, i32_4] at h14); (try simp only [bI_z, nb_24 hnb, ne_eq, Decidable.not_not] at h25); (try rw [hst] at h56); first | (have hr : rej S tg := (by first | exact Or.inl h14 | exact Or.inr h25); refine ⟨by rw [bI_f (fun q => q hr)], ?_⟩; rw [Fput, if_pos hr]; simpa [h36] using CX_log th 4 _ h hb) | (have hr : ¬ rej S tg := (fun q => q.elim h14 h25); refine ⟨by rw [bI_t hr], ?_⟩; rw [Fput, if_neg hr]; unfold Fenq; first | (rw [if_neg h56]; exact CX_enq0 h htg (nb_lt hnb h25) hk hf hfe) | (rw [if_pos h56, ← Fenq_comm (Inv_tr h.2.1)]; exact (by have h9 := (CX_bec (i := tg) (s := 2) h hb (by decide) (fun q => absurd q (by decide))).1; have e9 : Fbec S tg 2 209 tg = S 209 tg := (by simp [Fbec, Flog, Rlog, rdI]); have := CX_enq0 (i := tg) (f := f) (k := k) (x := x) (m := m) h9 htg (by rw [e9]; exact nb_lt hnb h25) (by simpa [okQ, Fbec, Flog, Rlog, rdI] using hk) hf (by simp [Cbec, Clog, rdI, lid_eq, lid_ne, hfe]); rw [e9] at this; exact this))))
      · refine q_iconst (-1) dX5_enqueue_39 (by decide) ?_
        refine q_goto 45 dX5_enqueue_40 (by decide) ?_
        refine q_callv [.int _, .int _, .int _] o_X8_log rfl k_X5_48 rfl (is_3 n) (by decide) rfl dX5_enqueue_45 (by decide) (by omega) (by decide) (by omega) rfl (c_log l n hn (d - 1) _ L (tr S) th 4 _ (by exact hc) (by omega)) (fun _ _ _ h => h.elim) (fun I2 L2 hq => ?_)
        obtain ⟨-, e2, e3⟩ := hq; subst e2; cases e3.symm
        refine q_iconst (0) dX5_enqueue_48 (by decide) ?_
        refine q_zret dX5_enqueue_49 rfl (by omega) (by decide) ?_
        ((try rw [hst, i32_4] at h14); (try simp only [bI_z, nb_24 hnb, ne_eq, Decidable.not_not] at h25); (try rw [hst] at h56); first | (have hr : rej S tg := (by first | exact Or.inl h14 | exact Or.inr h25); refine ⟨by rw [bI_f (fun q => q hr)], ?_⟩; rw [Fput, if_pos hr]; simpa [h36] using CX_log th 4 _ h hb) | (have hr : ¬ rej S tg := (fun q => q.elim h14 h25); refine ⟨by rw [bI_t hr], ?_⟩; rw [Fput, if_neg hr]; unfold Fenq; first | (rw [if_neg h56]; exact CX_enq0 h htg (nb_lt hnb h25) hk hf hfe) | (rw [if_pos h56, ← Fenq_comm (Inv_tr h.2.1)]; exact (by have h9 := (CX_bec (i := tg) (s := 2) h hb (by decide) (fun q => absurd q (by decide))).1; have e9 : Fbec S tg 2 209 tg = S 209 tg := (by simp [Fbec, Flog, Rlog, rdI]); have := CX_enq0 (i := tg) (f := f) (k := k) (x := x) (m := m) h9 htg (by rw [e9]; exact nb_lt hnb h25) (by simpa [okQ, Fbec, Flog, Rlog, rdI] using hk) hf (by simp [Cbec, Clog, rdI, lid_eq, lid_ne, hfe]); rw [e9] at this; exact this))))
end

