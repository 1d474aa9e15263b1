/-! ===== walks: timers, chooser, states ===== -/
/-- the first place from k on, of m, that holds x; -1 if none -/
def Cpl (f : Nat → Int32) (x : Int32) : Nat → Nat → Int32
  | 0, _ => -1
  | m + 1, k => if f k = x then nI k else Cpl f x m (k + 1)
theorem Cpl_spec (f : Nat → Int32) (x : Int32) : ∀ (m k : Nat), (∃ q, k ≤ q ∧ q < k + m ∧ f q = x ∧ Cpl f x m k = nI q) ∨ (Cpl f x m k = -1 ∧ ∀ q, k ≤ q → q < k + m → f q ≠ x)
  | 0, k => Or.inr ⟨rfl, fun q h1 h2 => by omega⟩
  | m + 1, k => by
    simp only [Cpl]
    by_cases e : f k = x
    · rw [if_pos e]
      exact Or.inl ⟨k, Nat.le_refl _, by omega, e, rfl⟩
    · rw [if_neg e]
      rcases Cpl_spec f x m (k + 1) with ⟨q, a1, a2, a3, a4⟩ | ⟨a1, a2⟩
      · exact Or.inl ⟨q, by omega, by omega, a3, a4⟩
      · refine Or.inr ⟨a1, fun q h1 h2 => ?_⟩
        by_cases eq : q = k
        · subst eq; exact e
        · exact a2 q (by omega) (by omega)
section
variable (l : Launch) (n : Nat) (hn : n < 2 ^ 31) (d : Nat) (I : MI) (L : ML)
set_option maxHeartbeats 4000000 in
set_option maxRecDepth 100000 in
theorem c_placeOf_lp {Q : vq_R} (i z : Nat) (x : Int32) (hn : n < 2 ^ 31) (hi : i < n) (hz : I (lid i 2) 3 = nI z) (hzb : z ≤ 24) : ∀ m k, k + m = z → Q (some (.int (Cpl (I (lid i 6)) x m k))) I L → VP l n m_X7_placeOf d 0 Q noX 0 2 [(2, .int (nI k)), (0, .ref (lid i 2)), (1, .int x)] [] I L := by
  intro m
  induction m with
  | zero =>
    intro k hk hQ
    refine q_iload_n dX7_placeOf_2 rfl ?_
    refine q_aload_n dX7_placeOf_3 rfl ?_
    refine q_getI (lid i 2) 7 3 (vq_isL hi 2 (by decide) rfl) (by decide) rfl (by decide) f_X7_22 rfl dX7_placeOf_4 ?_
    refine q_icmp_ge 28 dX7_placeOf_7 (by decide) (fun h7 => ?_) (fun h7 => ?_)
    · refine q_iconst (-1) dX7_placeOf_28 (by decide) ?_
      exact q_iret dX7_placeOf_29 rfl (by omega) hQ
    · exact absurd (by rw [hz]; exact nI_le (by omega) (by omega)) h7
  | succ m ih =>
    intro k hk hQ
    simp only [Cpl] at hQ
    refine q_iload_n dX7_placeOf_2 rfl ?_
    refine q_aload_n dX7_placeOf_3 rfl ?_
    refine q_getI (lid i 2) 7 3 (vq_isL hi 2 (by decide) rfl) (by decide) rfl (by decide) f_X7_22 rfl dX7_placeOf_4 ?_
    refine q_icmp_ge 28 dX7_placeOf_7 (by decide) (fun h7 => ?_) (fun h7 => ?_)
    · exact absurd h7 (by rw [hz]; exact nI_ge (by omega) (by omega))
    · refine q_aload_n dX7_placeOf_10 rfl ?_
      refine q_getR (lid i 2) 7 0 (lid i 6) (vq_isL hi 2 (by decide) rfl) (by decide) rfl ((gr_lid i 2 0 (by decide)).trans rfl) (by decide) f_X7_11 rfl dX7_placeOf_11 ?_
      refine q_iload_n dX7_placeOf_14 rfl ?_
      refine q_iald (lid i 6) (k) hn (vq_isL hi 6 (by decide) rfl) rfl (by rw [gl_lid]; omega) dX7_placeOf_15 ?_
      refine q_iload_n dX7_placeOf_16 rfl ?_
      refine q_icmp_ne 22 dX7_placeOf_17 (by decide) (fun h17 => ?_) (fun h17 => ?_)
      · rw [if_neg h17] at hQ
        refine q_iinc [(2, _), (0, _), (1, _)] (nI (k + 1)) dX7_placeOf_22 rfl (nI_1 k) (by decide) rfl ?_
        refine q_goto 2 dX7_placeOf_25 (by decide) ?_
        exact ih (k + 1) (by omega) hQ
      · rw [if_pos h17] at hQ
        refine q_iload_n dX7_placeOf_20 rfl ?_
        exact q_iret dX7_placeOf_21 rfl (by omega) hQ
set_option maxHeartbeats 4000000 in
set_option maxRecDepth 100000 in
theorem c_placeOf (i z : Nat) (x : Int32) (hn : n < 2 ^ 31) (hi : i < n) (hz : I (lid i 2) 3 = nI z) (hzb : z ≤ 24) : VM l n m_X7_placeOf d 0 [.ref (lid i 2), .int x] I L (fun r I' L' => r = some (.int (Cpl (I (lid i 6)) x z 0)) ∧ I' = I ∧ L' = L) noX := by
  refine VM_of _ [(0, .ref (lid i 2)), (1, .int x)] rfl (fun a => Nat.le_of_ble_eq_true rfl) rfl ?_
  refine q_iconst (0) dX7_placeOf_0 (by decide) ?_
  refine q_istore_n [(2, _), (0, _), (1, _)] dX7_placeOf_1 (by decide) rfl ?_
  exact c_placeOf_lp l n d I L i z x hn hi hz hzb z 0 (by omega) ⟨rfl, rfl, rfl⟩
theorem abs_eq (x : Int32) : (if 0 ≤ x then x else 0 - x) = if x < 0 then -x else x := by
  by_cases h : x < 0
  · rw [if_pos h, if_neg (Int32.not_le.mpr h)]
    simp
  · rw [if_neg h, if_pos (Int32.not_lt.mp h)]
set_option maxHeartbeats 4000000 in
set_option maxRecDepth 100000 in
theorem c_choose {S J : MI} {T M : ML} {w nf fr : Nat} (h : CX n S T w nf fr J M I L) (hd : 1 ≤ d) : VM l n m_X5_choose d 0 [.ref 2] I L (fun r I' L' => r = some (.int (Fch n (S 30 22))) ∧ CX n (FchS S) T w nf fr J M I' L') noX := by
  refine VM_of _ [(0, .ref 2)] rfl (fun a => Nat.le_of_ble_eq_true rfl) rfl ?_
  have hn8 := h.2.1.1
  have hc : I 2 3 = S 30 22 := h.1.2.2.2.2.1.2.1
  have hn0 : ¬ nI n = 0 := nI_ne0 (by omega) (by omega)
  have hX := CX_ch h
  refine q_aload_n dX5_choose_0 rfl ?_
  refine q_getI 2 5 3 (is_2 n) (by decide) rfl (by decide) f_X5_25 rfl dX5_choose_1 ?_
  refine q_istore_n [(1, _), (0, _)] dX5_choose_4 (by decide) rfl ?_
  refine q_aload_n dX5_choose_5 rfl ?_
  refine q_getR 2 5 1 321 (is_2 n) (by decide) rfl rfl (by decide) f_X5_20 rfl dX5_choose_6 ?_
  refine q_alenI 321 (is_321 n) dX5_choose_9 ?_
  refine q_istore_n [(2, _), (1, _), (0, _)] dX5_choose_10 (by decide) rfl ?_
  refine q_aload_n dX5_choose_11 rfl ?_
  refine q_dup dX5_choose_12 rfl ?_
  refine q_getI 2 5 3 (is_2 n) (by decide) rfl (by decide) f_X5_25 rfl dX5_choose_13 ?_
  refine q_iconst (1) dX5_choose_16 (by decide) ?_
  refine q_iadd dX5_choose_17 ?_
  refine q_putI 2 5 3 (is_2 n) (by decide) rfl (by decide) rfl rfl f_X5_25 rfl dX5_choose_18 ?_
  refine q_iload_n dX5_choose_21 rfl ?_
  refine q_iload_n dX5_choose_22 rfl ?_
  refine q_iconst (1) dX5_choose_23 (by decide) ?_
  refine q_isub dX5_choose_24 ?_
  refine q_iand dX5_choose_25 ?_
  refine q_if_ne 37 dX5_choose_26 (by decide) (fun h26 => ?_) (fun h26 => ?_)
  · refine q_iload_n dX5_choose_37 rfl ?_
    refine q_iload_n dX5_choose_38 rfl ?_
    refine q_irem dX5_choose_39 (by simpa [gl_321] using hn0) ?_
    refine q_abs k_X5_29 rfl dX5_choose_40 hd (by decide) (by omega) ?_
    refine q_iret dX5_choose_43 rfl (by omega) ⟨?_, hX⟩
    rw [abs_eq, hc, gl_321]
    rw [gl_321] at h26
    unfold Fch
    rw [if_neg h26]
  · refine q_iload_n dX5_choose_29 rfl ?_
    refine q_iload_n dX5_choose_30 rfl ?_
    refine q_iconst (1) dX5_choose_31 (by decide) ?_
    refine q_isub dX5_choose_32 ?_
    refine q_iand dX5_choose_33 ?_
    refine q_goto 43 dX5_choose_34 (by decide) ?_
    refine q_iret dX5_choose_43 rfl (by omega) ⟨?_, hX⟩
    rw [hc, gl_321]
    rw [gl_321] at h26
    unfold Fch
    rw [if_pos h26]
end

