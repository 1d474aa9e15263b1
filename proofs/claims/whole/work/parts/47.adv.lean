section
variable (l : Launch) (n : Nat) (hn : n < 2 ^ 31) (d : Nat) (I : MI) (L : ML)
set_option maxHeartbeats 8000000 in
set_option maxRecDepth 100000 in
theorem h_advance {S J : MI} {T M : ML} {w : Nat} (hl : l.stackTraces = false) (x : Int32) (h : CX n S T w 0 0 J M I L) (hd : 170 ≤ d) : VM l n m_X9_advance d 3 [.ref 0, .int x] I L (fun r I' L' => (Hadvance T x).1 = 0 ∧ r = some (.long (Hadvance T x).2.1) ∧ ∃ w, CX n S (Hadvance T x).2.2 w 0 0 J M I' L') (fun E I' L' => (E = iae ∧ (Hadvance T x).1 = 1) ∧ ∃ w, CX n S (Hadvance T x).2.2 w 0 0 J M I' L') := by
  refine VM_of _ [(0, .ref 0), (1, .int x)] rfl (fun a => Nat.le_of_ble_eq_true rfl) rfl ?_
  have hc : L 2 2 = T 30 2 := h.1.2.2.2.2.1.1
  have hb1 : ¬ (0 ≤ x ∧ x ≤ 1000000) → Hadvance T x = (1, 0, T) := fun q => if_neg q
  refine q_iload_n dX9_advance_0 rfl ?_
  refine q_if_lt 10 dX9_advance_1 (by decide) (fun h1 => ?_) (fun h1 => ?_)
  · exact q_throw hl x_IAE rfl (List.mem_of_getElem? (i := 8) rfl) dX9_advance_10 dX9_advance_13 dX9_advance_14 dX9_advance_16 dX9_advance_19 (by omega) (Nat.le_of_ble_eq_true rfl) (by omega) (by rw [hb1 (fun z => absurd h1 (Int32.not_lt.mpr z.1))]; exact ⟨⟨rfl, rfl⟩, w, h⟩)
  · rw [Int32.not_lt] at h1
    refine q_iload_n dX9_advance_4 rfl ?_
    refine q_ldc n_X9_117 rfl dX9_advance_5 ?_
    refine q_icmp_le 20 dX9_advance_7 (by decide) (fun h7 => ?_) (fun h7 => ?_)
    · have hz : Hadvance T x = (0, T 30 2 + x.toInt64, upL T 30 2 (T 30 2 + x.toInt64)) := if_pos ⟨h1, h7⟩
      refine q_aload_n dX9_advance_20 rfl ?_
      refine q_getR 0 9 1 2 (is_0 n) (by decide) rfl rfl (by decide) f_X9_22 rfl dX9_advance_21 ?_
      refine q_dup dX9_advance_24 rfl ?_
      refine q_getL 2 5 2 (is_2 n) (by decide) rfl (by decide) f_X9_120 rfl dX9_advance_25 ?_
      refine q_iload_n dX9_advance_28 rfl ?_
      refine q_i2l dX9_advance_29 ?_
      refine q_ladd dX9_advance_30 ?_
      refine q_putL 2 5 2 (is_2 n) (by decide) rfl (by decide) rfl rfl f_X9_120 rfl dX9_advance_31 ?_
      refine q_aload_n dX9_advance_34 rfl ?_
      refine q_getR 0 9 1 2 (is_0 n) (by decide) rfl rfl (by decide) f_X9_22 rfl dX9_advance_35 ?_
      refine q_getL 2 5 2 (is_2 n) (by decide) rfl (by decide) f_X9_120 rfl dX9_advance_38 ?_
      have e2 : upL L 2 2 (L 2 2 + x.toInt64) 2 2 = T 30 2 + x.toInt64 := by simp [rdL, hc]
      rw [e2, hc]
      refine q_lret dX9_advance_41 rfl (by omega) ?_
      rw [hz]
      exact ⟨rfl, rfl, w, CX_clk _ h⟩
    · exact q_throw hl x_IAE rfl (List.mem_of_getElem? (i := 8) rfl) dX9_advance_10 dX9_advance_13 dX9_advance_14 dX9_advance_16 dX9_advance_19 (by omega) (Nat.le_of_ble_eq_true rfl) (by omega) (by rw [hb1 (fun z => h7 z.2)]; exact ⟨⟨rfl, rfl⟩, w, h⟩)
end

