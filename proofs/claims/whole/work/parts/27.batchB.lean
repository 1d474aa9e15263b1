/-- the first timer that is due goes to the queue -/
def Fmv (S : MI) (T : ML) (i : Nat) : MI := upI (Fenq0 S i 0 (S 224 (N (Rfd S T i (T 30 2) (N (S 30 23))))) 0) 226 (N (Rfd S T i (T 30 2) (N (S 30 23)))) (-1)
def Fbb (T : ML) (i : Nat) : Nat → MI → MI
  | 0, S => S
  | m + 1, S => if S 209 i = 24 ∨ Rfd S T i (T 30 2) (N (S 30 23)) = -1 then S else Fbb T i m (Fmv S T i)
def FbbS (S : MI) (T : ML) (i : Nat) : MI := upI (Fbb T i 24 S) 210 i (if Fbb T i 24 S 209 i < 16 then Fbb T i 24 S 209 i else 16)
theorem min16 (x : Int32) : (if 16 < x then (16 : Int32) else x) = if x < 16 then x else 16 := by
  by_cases h : x < 16
  · rw [if_pos h, if_neg (fun q => Int32.lt_irrefl (Int32.lt_trans h q))]
  · rw [if_neg h]
    by_cases h2 : 16 < x
    · rw [if_pos h2]
    · rw [if_neg h2]
      exact Int32.le_antisymm (Int32.not_lt.mp h2) (Int32.not_lt.mp h)
theorem CX_mv {n w nf fr : Nat} {S I J : MI} {T L M : ML} {i f k t z : Nat} (h : CX n S T w nf fr J M I L) (hi : i < n) (hq : N (S 209 i) < 24) (hf : f < 24) (hfe : I (lid i 1) 3 = nI f) (hz : Fcnt S i (N (S 30 23)) = z + 1) (hk : k < z + 1) (ht : t < N (S 30 23)) (hr : Rfd S T i (T 30 2) (N (S 30 23)) = nI t) (hkt : I (lid i 6) k = nI t) :
    CX n (Fmv S T i) T w nf fr J M (Cmrem (Cqput I i ((f + N (S 209 i)) % 24) 0 (S 224 t) 0) i z k) (upL L (lid i 8) k (L (lid i 8) z)) := by
  have hM := h.2.1.2.2.2.2.2.1
  have hN : N (nI t) = t := N_nI (by have := hM.1.2; omega)
  unfold Fmv
  rw [hr, hN]
  have h1 := CX_enq0 (i := i) (f := f) (k := 0) (x := S 224 t) (m := 0) h hi hq (Or.inr ⟨Or.inl rfl, (hM.2 t ht).1⟩) hf hfe
  have e1 : Fenq0 S i 0 (S 224 t) 0 30 23 = S 30 23 := by simp [Fenq0, rdI]
  have e2 : Fenq0 S i 0 (S 224 t) 0 226 = S 226 := by simp [Fenq0, upI_ne]
  exact CX_drop h1 hi (by rw [e1, Fcnt_cong e2]; exact hz) hk (by simpa [Cqput, rdI, lid_eq] using hkt) (by have := hM.1.2; omega)
section
variable (l : Launch) (n : Nat) (hn : n < 2 ^ 31) (d : Nat) (I : MI) (L : ML)
set_option maxHeartbeats 4000000 in
set_option maxRecDepth 100000 in
theorem c_batch_ex {Q : vq_R} {S J : MI} {T M : ML} {w nf fr : Nat} (i : Nat) (hi : i < n) (hd : 2 ≤ d) (h : CX n S T w nf fr J M I L) (lv : List (Nat × Value)) (hlv : vq_lk lv 1 = some (.ref (lid i 0)))
    (hQ : ∀ I' L', CX n (upI S 210 i (if S 209 i < 16 then S 209 i else 16)) T w nf fr J M I' L' → Q none I' L') : VP l n m_X5_beginBatch d 0 Q noX 0 70 lv [] I L := by
  have hsz : I (lid i 1) 4 = S 209 i := (h.1.2.2.2.2.2 i hi).1.1
  refine q_aload_n dX5_beginBatch_70 hlv ?_
  refine q_aload_n dX5_beginBatch_71 hlv ?_
  refine q_getR (lid i 0) 1 0 (lid i 1) (vq_isL hi 0 (by decide) rfl) (by decide) rfl ((gr_lid i 0 0 (by decide)).trans rfl) (by decide) f_X5_38 rfl dX5_beginBatch_72 ?_
  refine q_getI (lid i 1) 3 4 (vq_isL hi 1 (by decide) rfl) (by decide) rfl (by decide) f_X5_93 rfl dX5_beginBatch_75 ?_
  refine q_bipush (16) dX5_beginBatch_78 (by decide) ?_
  refine q_min k_X5_94 rfl dX5_beginBatch_80 (by omega) (Nat.le_of_ble_eq_true rfl) (by omega) ?_
  rw [hsz, min16]
  refine q_putI (lid i 0) 1 3 (vq_isL hi 0 (by decide) rfl) (by decide) rfl (by decide) rfl rfl f_X5_98 rfl dX5_beginBatch_83 ?_
  exact q_vret dX5_beginBatch_86 rfl (by omega) (hQ _ _ (CX_ba _ h))
set_option maxHeartbeats 4000000 in
set_option maxRecDepth 100000 in
theorem c_batch_lp {Q : vq_R} {J : MI} {T M : ML} {w nf fr : Nat} (i : Nat) (hn : n < 2 ^ 31) (hi : i < n) (hd : 2 ≤ d) :
    ∀ m mv S I L, mv + m = 24 → CX n S T w nf fr J M I L → mv ≤ N (S 209 i) → (∀ I' L', CX n (upI (Fbb T i m S) 210 i (if Fbb T i m S 209 i < 16 then Fbb T i m S 209 i else 16)) T w nf fr J M I' L' → Q none I' L') → VP l n m_X5_beginBatch d 0 Q noX 0 2 [(2, .int (nI mv)), (0, .ref 2), (1, .ref (lid i 0))] [] I L := by
  intro m
  induction m with
  | zero =>
    intro mv S I L hmv h hle hQ
    refine q_iload_n dX5_beginBatch_2 rfl ?_
    refine q_bipush (24) dX5_beginBatch_3 (by decide) ?_
    refine q_icmp_ge 70 dX5_beginBatch_5 (by decide) (fun h5 => ?_) (fun h5 => ?_)
    · exact c_batch_ex l n d I L i hi hd h _ rfl hQ
    · exact absurd (show (24 : Int32) ≤ nI mv by rw [show mv = 24 by omega]; decide) h5
  | succ m ih =>
    intro mv S I L hmv h hle hQ
    have hsz : I (lid i 1) 4 = S 209 i := (h.1.2.2.2.2.2 i hi).1.1
    have hnb := (h.2.1.2.2.2.2.2.2.1 i hi).1.1
    have hck : L 2 2 = T 30 2 := h.1.2.2.2.2.1.1
    have hM := h.2.1.2.2.2.2.2.1
    obtain ⟨-, f, hf, hfe, -⟩ := (h.1.2.2.2.2.2 i hi).1
    obtain ⟨m1, m2, m3, m4, m5⟩ := (h.1.2.2.2.2.2 i hi).2.1
    refine q_iload_n dX5_beginBatch_2 rfl ?_
    refine q_bipush (24) dX5_beginBatch_3 (by decide) ?_
    refine q_icmp_ge 70 dX5_beginBatch_5 (by decide) (fun h5 => ?_) (fun h5 => ?_)
    · exact absurd h5 (by rw [show (24 : Int32) = nI 24 from rfl]; exact nI_ge (by omega) (by omega))
    · refine q_aload_n dX5_beginBatch_8 rfl ?_
      refine q_getR (lid i 0) 1 0 (lid i 1) (vq_isL hi 0 (by decide) rfl) (by decide) rfl ((gr_lid i 0 0 (by decide)).trans rfl) (by decide) f_X5_38 rfl dX5_beginBatch_9 ?_
      refine q_calli [] o_X3_isFull rfl k_X5_42 rfl (vq_isL hi 1 (by decide) rfl) (by decide) rfl dX5_beginBatch_12 (Nat.le_of_ble_eq_true rfl) (by omega) (by decide) (by omega) (Or.inr rfl) (c_isFull l n (d - 1) I L i hi) (fun _ _ _ h => h.elim) (fun r1 I1 L1 hq => ?_)
      obtain ⟨e1, e2, e3⟩ := hq
      cases e1
      cases e2.symm
      cases e3.symm
      rw [hsz]
      refine q_if_ne 70 dX5_beginBatch_15 (by decide) (fun h15 => ?_) (fun h15 => ?_)
      · rw [ne_eq, bI_z, Decidable.not_not, nb_24 hnb] at h15
        rw [show Fbb T i (m + 1) S = S by simp only [Fbb]; rw [if_pos (Or.inl h15)]] at hQ
        exact c_batch_ex l n d I L i hi hd h _ rfl hQ
      · rw [bI_z, nb_24 hnb] at h15
        have hq24 := nb_lt hnb h15
        refine q_aload_n dX5_beginBatch_18 rfl ?_
        refine q_getR (lid i 0) 1 1 (lid i 2) (vq_isL hi 0 (by decide) rfl) (by decide) rfl ((gr_lid i 0 1 (by decide)).trans rfl) (by decide) f_X5_62 rfl dX5_beginBatch_19 ?_
        refine q_aload_n dX5_beginBatch_22 rfl ?_
        refine q_getL 2 5 2 (is_2 n) (by decide) rfl (by decide) f_X5_71 rfl dX5_beginBatch_23 ?_
        refine q_calli [.long _] o_X7_firstDue rfl k_X5_85 rfl (vq_isL hi 2 (by decide) rfl) (by decide) rfl dX5_beginBatch_26 (Nat.le_of_ble_eq_true rfl) (by omega) (by decide) (by omega) (Or.inl rfl) (c_firstDue l n (d - 1) I L i (Fcnt S i (N (S 30 23))) (L 2 2) hn hi m1 m2 (by omega)) (fun _ _ _ h => h.elim) (fun r1 I1 L1 hq => ?_)
        obtain ⟨e1, e2, e3⟩ := hq
        cases e1
        cases e2.symm
        cases e3.symm
        refine q_istore_n [(3, _), (2, _), (0, _), (1, _)] dX5_beginBatch_29 (by decide) rfl ?_
        refine q_iload_n dX5_beginBatch_30 rfl ?_
        refine q_iconst (-1) dX5_beginBatch_31 (by decide) ?_
        rw [hck]
        rcases due_same h hi (T 30 2) with ⟨a1, a2⟩ | ⟨k, t, a1, a2, a3, a4, a5, a6⟩
        · rw [a1]
          refine q_icmp_ne 38 dX5_beginBatch_32 (by decide) (fun h32 => ?_) (fun h32 => ?_)
          · exact absurd rfl h32
          · rw [show Fbb T i (m + 1) S = S by simp only [Fbb]; rw [if_pos (Or.inr a2)]] at hQ
            refine q_goto 70 dX5_beginBatch_35 (by decide) ?_
            exact c_batch_ex l n d I L i hi hd h _ rfl hQ
        · rw [a3]
          refine q_icmp_ne 38 dX5_beginBatch_32 (by decide) (fun h32 => ?_) (fun h32 => ?_)
          · have e9 : ¬ nI t = -1 := fun q => nI_ne_m1 (by have := hM.1.2; omega) q.symm
            rw [show Fbb T i (m + 1) S = Fbb T i m (Fmv S T i) by simp only [Fbb]; rw [a4, if_neg (fun q => q.elim h15 e9)]] at hQ
            obtain ⟨z, hz⟩ : ∃ z, Fcnt S i (N (S 30 23)) = z + 1 := ⟨Fcnt S i (N (S 30 23)) - 1, by omega⟩
            have hN : N (nI t) = t := N_nI (by have := hM.1.2; omega)
            have e7 : I (lid i 7) k = S 224 t := by
              have := (m3 k a1).2.2.1
              rw [a5, hN] at this
              exact this
            have hX := CX_mv h hi hq24 hf hfe hz (by omega) a2 a4 a5
            refine q_aload_n dX5_beginBatch_38 rfl ?_
            refine q_getR (lid i 0) 1 0 (lid i 1) (vq_isL hi 0 (by decide) rfl) (by decide) rfl ((gr_lid i 0 0 (by decide)).trans rfl) (by decide) f_X5_38 rfl dX5_beginBatch_39 ?_
            refine q_iconst (0) dX5_beginBatch_42 (by decide) ?_
            refine q_aload_n dX5_beginBatch_43 rfl ?_
            refine q_getR (lid i 0) 1 1 (lid i 2) (vq_isL hi 0 (by decide) rfl) (by decide) rfl ((gr_lid i 0 1 (by decide)).trans rfl) (by decide) f_X5_62 rfl dX5_beginBatch_44 ?_
            refine q_getR (lid i 2) 7 1 (lid i 7) (vq_isL hi 2 (by decide) rfl) (by decide) rfl ((gr_lid i 2 1 (by decide)).trans rfl) (by decide) f_X5_89 rfl dX5_beginBatch_47 ?_
            refine q_iload_n dX5_beginBatch_50 rfl ?_
            refine q_iald (lid i 7) (k) hn (vq_isL hi 7 (by decide) rfl) rfl (by rw [gl_lid]; omega) dX5_beginBatch_51 ?_
            refine q_iconst (0) dX5_beginBatch_52 (by decide) ?_
            rw [e7]
            refine q_callv [.int _, .int _, .int _] o_X3_put rfl k_X5_56 rfl (vq_isL hi 1 (by decide) rfl) (by decide) rfl dX5_beginBatch_53 (Nat.le_of_ble_eq_true rfl) (by omega) (by decide) (by omega) rfl (c_qput l n (d - 1) I L i f (N (S 209 i)) 0 (S 224 t) 0 hn hi hfe (hsz.trans hnb.1) hf hq24) (fun _ _ _ h => h.elim) (fun I2 L2 hq => ?_)
            obtain ⟨-, e2, e3⟩ := hq
            subst e2
            cases e3.symm
            refine q_aload_n dX5_beginBatch_56 rfl ?_
            refine q_getR (lid i 0) 1 1 (lid i 2) (vq_isL hi 0 (by decide) rfl) (by decide) rfl ((gr_lid i 0 1 (by decide)).trans rfl) (by decide) f_X5_62 rfl dX5_beginBatch_57 ?_
            refine q_iload_n dX5_beginBatch_60 rfl ?_
            refine q_callv [.int _] o_X7_removeAt rfl k_X5_81 rfl (vq_isL hi 2 (by decide) rfl) (by decide) rfl dX5_beginBatch_61 (Nat.le_of_ble_eq_true rfl) (by omega) (by decide) (by omega) rfl (c_mrem l n (d - 1) _ L i z k hn hi (by rw [← hz]; simpa [Cqput, rdI, lid_eq] using m1) (by omega) (by omega)) (fun _ _ _ h => h.elim) (fun I3 L3 hq => ?_)
            obtain ⟨-, e2, e3⟩ := hq
            subst e2
            subst e3
            refine q_iinc [(2, _), (3, _), (0, _), (1, _)] (nI (mv + 1)) dX5_beginBatch_64 rfl (nI_1 mv) (by decide) rfl ?_
            refine q_goto 2 dX5_beginBatch_67 (by decide) ?_
            refine q_lv [(2, .int (nI (mv + 1))), (0, .ref 2), (1, .ref (lid i 0))] (by simp) ?_
            refine ih (mv + 1) (Fmv S T i) _ _ (by omega) hX ?_ hQ
            have e8 : Fmv S T i 209 i = nI (N (S 209 i) + 1) := by
              simp only [Fmv, Fenq0, rdI]
              simp
              exact nI_add1 hnb.1
            rw [e8, N_nI (by omega)]
            omega
          · exact absurd h32.symm (nI_ne_m1 (by omega))
set_option maxHeartbeats 4000000 in
set_option maxRecDepth 100000 in
theorem c_beginBatch {S J : MI} {T M : ML} {w nf fr : Nat} (i : Nat) (hn : n < 2 ^ 31) (hi : i < n) (h : CX n S T w nf fr J M I L) (hd : 2 ≤ d) : VM l n m_X5_beginBatch d 0 [.ref 2, .ref (lid i 0)] I L (fun r I' L' => r = none ∧ CX n (FbbS S T i) T w nf fr J M I' L') noX := by
  refine VM_of _ [(0, .ref 2), (1, .ref (lid i 0))] rfl (fun a => Nat.le_of_ble_eq_true rfl) rfl ?_
  refine q_iconst (0) dX5_beginBatch_0 (by decide) ?_
  refine q_istore_n [(2, _), (0, _), (1, _)] dX5_beginBatch_1 (by decide) rfl ?_
  exact c_batch_lp l n d i hn hi hd 24 0 S I L (by omega) h (Nat.zero_le _) (fun I' L' h' => ⟨rfl, h'⟩)
end

