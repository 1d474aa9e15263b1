/-- the class's doOrders does what D says, at the level g; the same of goThrough and G -/
def cDo (l : Launch) (n : Nat) (th : Int32) (g : Nat) (D : Nat → Nat → Nat → PX → PX) : Prop := ∀ (d nf fr t : Nat) (x : PX) (I : MI) (L : ML) (J : MI) (M : ML), 10 * g + 10 ≤ d → 13 ≤ nf + 2 * fr + g → nf ≤ 4 → fr ≤ 4 → CX n x.1 x.2.1 x.2.2 nf fr J M I L → x.2.2 ≤ 1000 → t < N (x.1 30 3) → Ph x + 100 < 2 ^ 31 →
  VM l n m_X4_doOrders d 0 [.ref 1, .int th, .int (nI t), .int 0] I L (fun r I' L' => r = none ∧ CX n (D nf fr t x).1 (D nf fr t x).2.1 (D nf fr t x).2.2 nf fr J M I' L') noX
def cGo (l : Launch) (n : Nat) (th : Int32) (g : Nat) (G : Nat → Nat → Nat → Int32 → PX → PX) : Prop := ∀ (d nf fr c : Nat) (m : Int32) (x : PX) (I : MI) (L : ML) (J : MI) (M : ML), 10 * g + 10 ≤ d → 12 ≤ nf + 2 * fr + g → nf ≤ 4 → fr < 4 → CX n x.1 x.2.1 x.2.2 nf fr J M I L → x.2.2 ≤ 1000 → c < N (x.1 30 34) → Ph x + 120 < 2 ^ 31 →
  VM l n m_X4_goThrough d 0 [.ref 1, .int th, .int (nI c), .int m] I L (fun r I' L' => r = none ∧ CX n (G nf fr c m x).1 (G nf fr c m x).2.1 (G nf fr c m x).2.2 nf fr J M I' L') noX
section
variable (l : Launch) (n : Nat) (hn : n < 2 ^ 31) (d : Nat) (I : MI) (L : ML)
set_option maxHeartbeats 4000000 in
set_option maxRecDepth 100000 in
theorem c_await {S J : MI} {T M : ML} {w nf fr : Nat} (th : Int32) (p thn : Nat) (hth : th = nI thn) (htn : thn < n) (hn : n < 2 ^ 31) (h : CX n S T w nf fr J M I L) (hp : p < N (S 30 27)) (hnf : nf ≤ 4) (hfr : fr ≤ 5) (hb : tr S + 1 < 2 ^ 31) (hd : 2 ≤ d) : VM l n m_X4_await d 0 [.ref 1, .int th, .int (nI p)] I L (fun r I' L' =>
    (S 229 p ≠ 0 → r = some (.int 0) ∧ CX n S T w nf fr J M I' L') ∧ (S 229 p = 0 → 0 < nf ∨ 0 < fr ∨ S 228 p = th → r = some (.int 0) ∧ CX n (Flog S th 3 (nI p)) T w nf fr J M I' L') ∧ (S 229 p = 0 → ¬ (0 < nf ∨ 0 < fr ∨ S 228 p = th) → r = some (.int 2) ∧ I' = upI I (lid thn 0) 4 (nI p) ∧ L' = L)) noX := by
  refine VM_of _ [(0, .ref 1), (1, .int th), (2, .int (nI p))] rfl (fun a => Nat.le_of_ble_eq_true rfl) rfl ?_
  have hp32 := h.2.1.2.2.2.1.1.2
  have hS1 : I 351 p = S 229 p := congrFun h.1.2.2.1.2.2.1 p
  have hS0 : I 350 p = S 228 p := congrFun h.1.2.2.1.2.1 p
  have hc := CX_cnt h
  have hcnt := h.2.2.1
  refine q_aload_n dX4_await_0 rfl ?_
  refine q_getR 1 4 1 5 (is_1 n) (by decide) rfl rfl (by decide) f_X4_21 rfl dX4_await_1 ?_
  refine q_iload_n dX4_await_4 rfl ?_
  refine q_calli [.int _] o_X2_isPending rfl k_X4_97 rfl (is_5 n) (by decide) rfl dX4_await_5 (Nat.le_of_ble_eq_true rfl) (by omega) (by decide) (by omega) (Or.inr rfl) (c_isPending l n (d - 1) I L p hn (by omega)) (fun _ _ _ h => h.elim) (fun r1 I1 L1 hq => ?_)
  obtain ⟨e1, e2, e3⟩ := hq
  cases e1
  cases e2.symm
  cases e3.symm
  rw [hS1]
  have LG : ∀ lv, vq_lk lv 0 = some (.ref 1) → vq_lk lv 1 = some (.int th) → vq_lk lv 2 = some (.int (nI p)) → S 229 p = 0 → (0 < nf ∨ 0 < fr ∨ S 228 p = th) → VP l n m_X4_await d 0 (fun r I' L' =>
    (S 229 p ≠ 0 → r = some (.int 0) ∧ CX n S T w nf fr J M I' L') ∧ (S 229 p = 0 → 0 < nf ∨ 0 < fr ∨ S 228 p = th → r = some (.int 0) ∧ CX n (Flog S th 3 (nI p)) T w nf fr J M I' L') ∧ (S 229 p = 0 → ¬ (0 < nf ∨ 0 < fr ∨ S 228 p = th) → r = some (.int 2) ∧ I' = upI I (lid thn 0) 4 (nI p) ∧ L' = L)) noX 0 40 lv [] I L := by
    intro lv l0 l1 l2 hz hr
    refine q_aload_n dX4_await_40 l0 ?_
    refine q_getR 1 4 4 3 (is_1 n) (by decide) rfl rfl (by decide) f_X4_45 rfl dX4_await_41 ?_
    refine q_iload_n dX4_await_44 l1 ?_
    refine q_iconst 3 dX4_await_45 (by decide) ?_
    refine q_iload_n dX4_await_46 l2 ?_
    refine q_callv [.int _, .int _, .int _] o_X8_log rfl k_X4_102 rfl (is_3 n) (by decide) rfl dX4_await_47 (Nat.le_of_ble_eq_true rfl) (by omega) (by decide) (by omega) rfl (c_log l n hn (d - 1) I L (tr S) th 3 (nI p) hc (by omega)) (fun _ _ _ h => h.elim) (fun I2 L2 hq => ?_)
    obtain ⟨-, e2, e3⟩ := hq
    subst e2
    cases e3.symm
    refine q_iconst 0 dX4_await_50 (by decide) ?_
    exact q_iret dX4_await_51 rfl (by omega) ⟨fun q => absurd hz q, fun _ _ => ⟨rfl, CX_log th 3 (nI p) h hb⟩, fun _ q => absurd hr q⟩
  refine q_if_ne 13 dX4_await_8 (by decide) (fun h8 => ?_) (fun h8 => ?_)
  · rw [ne_eq, bI_z, Decidable.not_not] at h8
    refine q_aload_n dX4_await_13 rfl ?_
    refine q_getI 1 4 6 (is_1 n) (by decide) rfl (by decide) f_X4_183 rfl dX4_await_14 ?_
    rw [hcnt.2.1]
    refine q_if_gt 40 dX4_await_17 (by decide) (fun h17 => ?_) (fun h17 => ?_)
    · exact LG _ rfl rfl rfl h8 (Or.inl (by rcases Nat.eq_zero_or_pos nf with q | q
                                            · subst q; exact absurd h17 (by decide)
                                            · exact q))
    · have hnf0 : nf = 0 := by
        rcases Nat.eq_zero_or_pos nf with q | q
        · exact q
        · exact absurd (by rw [show (0 : Int32) = nI 0 from rfl]; exact nI_lt q (by omega)) h17
      refine q_aload_n dX4_await_20 rfl ?_
      refine q_getI 1 4 7 (is_1 n) (by decide) rfl (by decide) f_X4_186 rfl dX4_await_21 ?_
      rw [hcnt.2.2]
      refine q_if_gt 40 dX4_await_24 (by decide) (fun h24 => ?_) (fun h24 => ?_)
      · exact LG _ rfl rfl rfl h8 (Or.inr (Or.inl (by rcases Nat.eq_zero_or_pos fr with q | q
                                                      · subst q; exact absurd h24 (by decide)
                                                      · exact q)))
      · have hfr0 : fr = 0 := by
          rcases Nat.eq_zero_or_pos fr with q | q
          · exact q
          · exact absurd (by rw [show (0 : Int32) = nI 0 from rfl]; exact nI_lt q (by omega)) h24
        refine q_aload_n dX4_await_27 rfl ?_
        refine q_getR 1 4 1 5 (is_1 n) (by decide) rfl rfl (by decide) f_X4_21 rfl dX4_await_28 ?_
        refine q_getR 5 2 0 350 (is_5 n) (by decide) rfl rfl (by decide) f_X4_189 rfl dX4_await_31 ?_
        refine q_iload_n dX4_await_34 rfl ?_
        refine q_iald 350 (p) hn (is_350 n) rfl (by show p < 32; omega) dX4_await_35 ?_
        refine q_iload_n dX4_await_36 rfl ?_
        rw [hS0]
        refine q_icmp_ne 52 dX4_await_37 (by decide) (fun h37 => ?_) (fun h37 => ?_)
        · refine q_aload_n dX4_await_52 rfl ?_
          refine q_getR 1 4 3 2 (is_1 n) (by decide) rfl rfl (by decide) f_X4_37 rfl dX4_await_53 ?_
          refine q_getR 2 5 1 321 (is_2 n) (by decide) rfl rfl (by decide) f_X4_46 rfl dX4_await_56 ?_
          refine q_iload_n dX4_await_59 rfl ?_
          refine q_aald 321 (thn) (lid (thn) 0) hn (is_321 n) hth htn rfl dX4_await_60 ?_
          refine q_iload_n dX4_await_61 rfl ?_
          refine q_putI (lid thn 0) 1 4 (vq_isL htn 0 (by decide) rfl) (by decide) rfl (by decide) rfl rfl f_X4_68 rfl dX4_await_62 ?_
          refine q_iconst (2) dX4_await_65 (by decide) ?_
          refine q_iret dX4_await_66 rfl (by omega) ⟨fun q => absurd h8 q, fun _ q => ?_, fun _ _ => ⟨rfl, rfl, rfl⟩⟩
          exact absurd q (by rintro (q | q | q) <;> first | omega | exact h37 q)
        · exact LG _ rfl rfl rfl h8 (Or.inr (Or.inr h37))
  · rw [bI_z] at h8
    refine q_iconst (0) dX4_await_11 (by decide) ?_
    exact q_iret dX4_await_12 rfl (by omega) ⟨fun _ => ⟨rfl, h⟩, fun q => absurd q h8, fun q => absurd q h8⟩
end

