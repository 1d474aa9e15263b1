/-- one listener is told, to the memory -/
def Rtell (I : MI) (D p : Nat) (t : Int32) : MI := if I 228 p = I 30 51 ∧ Rcnt I 1 D < 4 then Rpush (Flog I (I 30 51) 5 t) D 1 t 0 else Fput I (I 30 51) (N (I 228 p)) 1 t 0 t
def Rfin (I : MI) (D p : Nat) (how v : Int32) : MI := if noFin I p how then I else if 0 < I 232 p then Rpush (Ffin I p how v) D 3 (nI p) (I 232 p) else Ffin I p how v
def Rsend (I : MI) (D c : Nat) (m : Int32) : MI := if I 235 c = I 30 51 ∧ Rcnt I 4 D < 4 then Rpush I D 4 (nI c) m else Fput I (I 30 51) (N (I 235 c)) 2 (nI c) m (-1)
def Rlis (I : MI) (D p t : Nat) : MI := if I 229 p ≠ 0 then Rtell I D p (nI t) else Flis I p t
def Rawait (I : MI) (D p : Nat) : MI := if I 229 p ≠ 0 then I else if 1 < D ∨ I 228 p = I 30 51 then Flog I (I 30 51) 3 (nI p) else upI (upI (upI (upI (upI I 214 (N (I 30 51)) 1) 215 (N (I 30 51)) (I 247 0)) 216 (N (I 30 51)) (I 248 0)) 217 (N (I 30 51)) (nI p)) 30 45 0
theorem Rcnt_log (I : MI) (a b c w : Int32) : ∀ D, Rcnt (Flog I a b c) w D = Rcnt I w D
  | 0 => rfl
  | D + 1 => by simp only [Rcnt, Rcnt_log I a b c w D]; simp [Flog, Rlog, rdI]
theorem lt4 {c D : Nat} (h : c ≤ D) (hD : D ≤ 80) : (4 : Int32) ≤ nI c ↔ ¬ c < 4 := by
  rw [show (4 : Int32) = nI 4 from rfl, nI_leI (by decide) (by omega)]
  omega
theorem tr_log (S : MI) (a b c : Int32) (h : tr S + 1 < 2 ^ 31) : tr (Flog S a b c) = tr S + 1 ∧ (Flog S a b c) 30 41 = nI (tr S + 1) := by
  have e : (Flog S a b c) 30 41 = nI (tr S + 1) := by simp [Flog, Rlog, rdI, tr]
  exact ⟨by unfold tr; rw [e, N_nI h]; rfl, e⟩
section
variable (l : Launch) (n : Nat) (hn : n < 2 ^ 31) (d : Nat) (I : MI) (L : ML)
set_option maxHeartbeats 4000000 in
set_option maxRecDepth 100000 in
theorem r_notify (D p : Nat) (t : Int32) (hn : n < 2 ^ 31) (hn8 : n ≤ 8) (hD : I 30 45 = nI D) (hDb : D < 80) (hp : p < 32) (he : nbt (I 228 p) n) (hq : nb (I 209 (N (I 228 p))) 24) (hc : I 30 41 = nI (tr I)) (hcb : tr I + 1 < 2 ^ 31) (hd : 3 ≤ d) : VM l n m_X10_notify d 0 [.ref 30, .int (nI p), .int t] I L (fun r I' L' => r = none ∧ I' = Rtell I D p t ∧ L' = L) noX := by
  refine VM_of _ [(0, .ref 30), (1, .int (nI p)), (2, .int t)] rfl (fun a => Nat.le_of_ble_eq_true rfl) rfl ?_
  have key : ¬ (I 228 p = I 30 51 ∧ Rcnt I 1 D < 4) → VP l n m_X10_notify d 0 (fun r I' L' => r = none ∧ I' = Rtell I D p t ∧ L' = L) noX 0 42 [(0, .ref 30), (1, .int (nI p)), (2, .int t)] [] I L := by
    intro hcn
    refine q_aload_n dX10_notify_42 rfl ?_
    refine q_aload_n dX10_notify_43 rfl ?_
    refine q_getR 30 10 28 228 (is_30 n) (by decide) rfl rfl (by decide) f_X10_75 rfl dX10_notify_44 ?_
    refine q_iload_n dX10_notify_47 rfl ?_
    refine q_iald 228 (_) hn (is_228 n) rfl (by show _ < 32; omega) dX10_notify_48 ?_
    refine q_iconst (1) dX10_notify_49 (by decide) ?_
    refine q_iload_n dX10_notify_50 rfl ?_
    refine q_iconst (0) dX10_notify_51 (by decide) ?_
    refine q_iload_n dX10_notify_52 rfl ?_
    rw [he.1]
    refine q_calli [.int _, .int _, .int _, .int _, .int _] o_X10_put rfl k_X10_212 rfl (is_30 n) (by decide) rfl dX10_notify_53 (Nat.le_of_ble_eq_true rfl) (by omega) (by decide) (by omega) (Or.inr rfl) (r_put l n (d - 1) I L (N (I 228 p)) 1 t 0 t hn (by have := he.2; omega) hq hc (by omega) (by omega)) (fun _ _ _ h => h.elim) (fun r1 I1 L1 hq1 => ?_)
    obtain ⟨e1, e2, e3⟩ := hq1
    cases e1
    subst e2
    cases e3.symm
    refine q_pop dX10_notify_56 rfl ?_
    exact q_vret dX10_notify_57 rfl (by omega) ⟨rfl, by rw [Rtell, if_neg hcn], rfl⟩
  refine q_aload_n dX10_notify_0 rfl ?_
  refine q_getI 30 10 51 (is_30 n) (by decide) rfl (by decide) f_X10_189 rfl dX10_notify_1 ?_
  refine q_aload_n dX10_notify_4 rfl ?_
  refine q_getR 30 10 28 228 (is_30 n) (by decide) rfl rfl (by decide) f_X10_75 rfl dX10_notify_5 ?_
  refine q_iload_n dX10_notify_8 rfl ?_
  refine q_iald 228 (_) hn (is_228 n) rfl (by show _ < 32; omega) dX10_notify_9 ?_
  refine q_icmp_ne 42 dX10_notify_10 (by decide) (fun h10 => ?_) (fun h10 => ?_)
  · exact key (fun q => h10 q.1.symm)
  · refine q_aload_n dX10_notify_13 rfl ?_
    refine q_iconst (1) dX10_notify_14 (by decide) ?_
    refine q_calli [.int _] o_X10_frames rfl k_X10_206 rfl (is_30 n) (by decide) rfl dX10_notify_15 (Nat.le_of_ble_eq_true rfl) (by omega) (by decide) (by omega) (Or.inl rfl) (r_frames l n (d - 1) I L 1 D hn hD (by omega)) (fun _ _ _ h => h.elim) (fun r1 I1 L1 hq1 => ?_)
    obtain ⟨e1, e2, e3⟩ := hq1
    cases e1
    cases e2.symm
    cases e3.symm
    refine q_iconst (4) dX10_notify_18 (by decide) ?_
    refine q_icmp_ge 42 dX10_notify_19 (by decide) (fun h19 => key (fun q => (lt4 (Rcnt_le I 1 D) (by omega)).mp h19 q.2)) (fun h19 => ?_)
    have hc4 : Rcnt I 1 D < 4 := Decidable.byContradiction (fun q => h19 ((lt4 (Rcnt_le I 1 D) (by omega)).mpr q))
    refine q_aload_n dX10_notify_22 rfl ?_
    refine q_aload_n dX10_notify_23 rfl ?_
    refine q_getI 30 10 51 (is_30 n) (by decide) rfl (by decide) f_X10_189 rfl dX10_notify_24 ?_
    refine q_iconst (5) dX10_notify_27 (by decide) ?_
    refine q_iload_n dX10_notify_28 rfl ?_
    refine q_callv [.int _, .int _, .int _] o_X10_log rfl k_X10_155 rfl (is_30 n) (by decide) rfl dX10_notify_29 (Nat.le_of_ble_eq_true rfl) (by omega) (by decide) (by omega) rfl (r_log l n hn (d - 1) I L (tr I) (I 30 51) 5 t hc (by omega)) (fun _ _ _ h => h.elim) (fun I1 L1 hq1 => ?_)
    obtain ⟨-, e2, e3⟩ := hq1
    have e2 : I1 = Flog I (I 30 51) 5 t := e2
    subst e2
    cases e3.symm
    refine q_aload_n dX10_notify_32 rfl ?_
    refine q_iconst (1) dX10_notify_33 (by decide) ?_
    refine q_iload_n dX10_notify_34 rfl ?_
    refine q_iconst (0) dX10_notify_35 (by decide) ?_
    refine q_callv [.int _, .int _, .int _] o_X10_push rfl k_X10_209 rfl (is_30 n) (by decide) rfl dX10_notify_36 (Nat.le_of_ble_eq_true rfl) (by omega) (by decide) (by omega) rfl (r_push l n (d - 1) (Flog I (I 30 51) 5 t) L D 1 t 0 hn (by rw [← hD]; simp [Flog, Rlog, rdI]) hDb) (fun _ _ _ h => h.elim) (fun I1 L1 hq1 => ?_)
    obtain ⟨-, e2, e3⟩ := hq1
    subst e2
    cases e3.symm
    refine q_goto 57 dX10_notify_39 (by decide) ?_
    exact q_vret dX10_notify_57 rfl (by omega) ⟨rfl, by rw [Rtell, if_pos ⟨h10.symm, hc4⟩], rfl⟩
set_option maxHeartbeats 4000000 in
set_option maxRecDepth 100000 in
theorem r_finish (D p : Nat) (how v : Int32) (hn : n < 2 ^ 31) (hD : I 30 45 = nI D) (hDb : D < 80) (hp : p < 32) (hd : 1 ≤ d) : VM l n m_X10_finish d 0 [.ref 30, .int (nI p), .int how, .int v] I L (fun r I' L' => r = some (.int (bI (¬ noFin I p how))) ∧ I' = Rfin I D p how v ∧ L' = L) noX := by
  refine VM_of _ [(0, .ref 30), (1, .int (nI p)), (2, .int how), (3, .int v)] rfl (fun a => Nat.le_of_ble_eq_true rfl) rfl ?_
  have kno : noFin I p how → VP l n m_X10_finish d 0 (fun r I' L' => r = some (.int (bI (¬ noFin I p how))) ∧ I' = Rfin I D p how v ∧ L' = L) noX 0 23 [(0, .ref 30), (1, .int (nI p)), (2, .int how), (3, .int v)] [] I L := by
    intro h
    refine q_iconst (0) dX10_finish_23 (by decide) ?_
    exact q_zret dX10_finish_24 rfl (by omega) (by decide) ⟨by rw [bI_f (fun q => q h)], by rw [Rfin, if_pos h], rfl⟩
  have kend : ¬ noFin I p how → ∀ x, x = (if how = 3 then 0 else v) → VP l n m_X10_finish d 0 (fun r I' L' => r = some (.int (bI (¬ noFin I p how))) ∧ I' = Rfin I D p how v ∧ L' = L) noX 0 47 [(0, .ref 30), (1, .int (nI p)), (2, .int how), (3, .int v)] [.int x, .int (nI p), .ref 230] (upI I 229 p how) L := by
    intro h x hx
    refine q_iast 230 (_) hn (is_230 n) rfl (by show _ < 32; omega) dX10_finish_47 ?_
    refine q_aload_n dX10_finish_48 rfl ?_
    refine q_getR 30 10 32 232 (is_30 n) (by decide) rfl rfl (by decide) f_X10_87 rfl dX10_finish_49 ?_
    refine q_iload_n dX10_finish_52 rfl ?_
    refine q_iald 232 (_) hn (is_232 n) rfl (by show _ < 32; omega) dX10_finish_53 ?_
    refine q_istore [(4, _), (0, _), (1, _), (2, _), (3, _)] dX10_finish_54 (by decide) rfl ?_
    refine q_aload_n dX10_finish_56 rfl ?_
    refine q_getR 30 10 32 232 (is_30 n) (by decide) rfl rfl (by decide) f_X10_87 rfl dX10_finish_57 ?_
    refine q_iload_n dX10_finish_60 rfl ?_
    refine q_iconst (0) dX10_finish_61 (by decide) ?_
    refine q_iast 232 (_) hn (is_232 n) rfl (by show _ < 32; omega) dX10_finish_62 ?_
    refine q_iload dX10_finish_63 rfl ?_
    have e5 : upI (upI I 229 p how) 230 p x 232 p = I 232 p := by simp [rdI]
    have e6 : upI (upI (upI I 229 p how) 230 p x) 232 p 0 = Ffin I p how v := by rw [hx]; rfl
    rw [e5, e6]
    refine q_if_le 76 dX10_finish_65 (by decide) (fun h65 => ?_) (fun h65 => ?_)
    · refine q_iconst (1) dX10_finish_76 (by decide) ?_
      exact q_zret dX10_finish_77 rfl (by omega) (by decide) ⟨by rw [bI_t h], by rw [Rfin, if_neg h, if_neg (Int32.not_lt.mpr h65)], rfl⟩
    · refine q_aload_n dX10_finish_68 rfl ?_
      refine q_iconst (3) dX10_finish_69 (by decide) ?_
      refine q_iload_n dX10_finish_70 rfl ?_
      refine q_iload dX10_finish_71 rfl ?_
      refine q_callv [.int _, .int _, .int _] o_X10_push rfl k_X10_209 rfl (is_30 n) (by decide) rfl dX10_finish_73 (Nat.le_of_ble_eq_true rfl) (by omega) (by decide) (by omega) rfl (r_push l n (d - 1) (Ffin I p how v) L D 3 (nI p) (I 232 p) hn (by rw [← hD]; simp [Ffin, rdI]) hDb) (fun _ _ _ h => h.elim) (fun I1 L1 hq1 => ?_)
      obtain ⟨-, e2, e3⟩ := hq1
      subst e2
      cases e3.symm
      refine q_iconst (1) dX10_finish_76 (by decide) ?_
      exact q_zret dX10_finish_77 rfl (by omega) (by decide) ⟨by rw [bI_t h], by rw [Rfin, if_neg h, if_pos (Int32.not_le.mp h65)], rfl⟩
  have kgo : ¬ noFin I p how → VP l n m_X10_finish d 0 (fun r I' L' => r = some (.int (bI (¬ noFin I p how))) ∧ I' = Rfin I D p how v ∧ L' = L) noX 0 25 [(0, .ref 30), (1, .int (nI p)), (2, .int how), (3, .int v)] [] I L := by
    intro h
    refine q_aload_n dX10_finish_25 rfl ?_
    refine q_getR 30 10 29 229 (is_30 n) (by decide) rfl rfl (by decide) f_X10_78 rfl dX10_finish_26 ?_
    refine q_iload_n dX10_finish_29 rfl ?_
    refine q_iload_n dX10_finish_30 rfl ?_
    refine q_iast 229 (_) hn (is_229 n) rfl (by show _ < 32; omega) dX10_finish_31 ?_
    refine q_aload_n dX10_finish_32 rfl ?_
    refine q_getR 30 10 30 230 (is_30 n) (by decide) rfl rfl (by decide) f_X10_81 rfl dX10_finish_33 ?_
    refine q_iload_n dX10_finish_36 rfl ?_
    refine q_iload_n dX10_finish_37 rfl ?_
    refine q_iconst (3) dX10_finish_38 (by decide) ?_
    refine q_icmp_ne 46 dX10_finish_39 (by decide) (fun h39 => ?_) (fun h39 => ?_)
    · refine q_iload_n dX10_finish_46 rfl ?_
      exact kend h _ (by rw [if_neg h39])
    · refine q_iconst (0) dX10_finish_42 (by decide) ?_
      refine q_goto 47 dX10_finish_43 (by decide) ?_
      exact kend h _ (by rw [if_pos h39])
  refine q_aload_n dX10_finish_0 rfl ?_
  refine q_getR 30 10 29 229 (is_30 n) (by decide) rfl rfl (by decide) f_X10_78 rfl dX10_finish_1 ?_
  refine q_iload_n dX10_finish_4 rfl ?_
  refine q_iald 229 (_) hn (is_229 n) rfl (by show _ < 32; omega) dX10_finish_5 ?_
  refine q_if_ne 23 dX10_finish_6 (by decide) (fun h6 => ?_) (fun h6 => ?_)
  · exact kno (Or.inl h6)
  · refine q_iload_n dX10_finish_9 rfl ?_
    refine q_iconst (3) dX10_finish_10 (by decide) ?_
    refine q_icmp_ne 25 dX10_finish_11 (by decide) (fun h11 => ?_) (fun h11 => ?_)
    · exact kgo (fun q => q.elim (fun z => z h6) (fun z => h11 z.1))
    · refine q_aload_n dX10_finish_14 rfl ?_
      refine q_getR 30 10 31 231 (is_30 n) (by decide) rfl rfl (by decide) f_X10_84 rfl dX10_finish_15 ?_
      refine q_iload_n dX10_finish_18 rfl ?_
      refine q_zald 231 (_) hn (is_231 n) rfl (by show _ < 32; omega) dX10_finish_19 ?_
      refine q_if_eq 25 dX10_finish_20 (by decide) (fun h20 => ?_) (fun h20 => ?_)
      · exact kgo (fun q => q.elim (fun z => z h6) (fun z => z.2 h20))
      · exact kno (Or.inr ⟨h11, h20⟩)
set_option maxHeartbeats 4000000 in
set_option maxRecDepth 100000 in
theorem r_send (D c : Nat) (m : Int32) (hn : n < 2 ^ 31) (hn8 : n ≤ 8) (hD : I 30 45 = nI D) (hDb : D < 80) (hcc : c < 16) (he : nbt (I 235 c) n) (hq : nb (I 209 (N (I 235 c))) 24) (hc : I 30 41 = nI (tr I)) (hcb : tr I < 2 ^ 31) (hd : 3 ≤ d) : VM l n m_X10_send d 0 [.ref 30, .int (nI c), .int m] I L (fun r I' L' => r = some (.int (if I 235 c = I 30 51 ∧ Rcnt I 4 D < 4 then 1 else bI (¬ rej I (N (I 235 c))))) ∧ I' = Rsend I D c m ∧ L' = L) noX := by
  refine VM_of _ [(0, .ref 30), (1, .int (nI c)), (2, .int m)] rfl (fun a => Nat.le_of_ble_eq_true rfl) rfl ?_
  have key : ¬ (I 235 c = I 30 51 ∧ Rcnt I 4 D < 4) → VP l n m_X10_send d 0 (fun r I' L' => r = some (.int (if I 235 c = I 30 51 ∧ Rcnt I 4 D < 4 then 1 else bI (¬ rej I (N (I 235 c))))) ∧ I' = Rsend I D c m ∧ L' = L) noX 0 31 [(0, .ref 30), (1, .int (nI c)), (2, .int m)] [] I L := by
    intro hcn
    refine q_aload_n dX10_send_31 rfl ?_
    refine q_aload_n dX10_send_32 rfl ?_
    refine q_getR 30 10 35 235 (is_30 n) (by decide) rfl rfl (by decide) f_X10_93 rfl dX10_send_33 ?_
    refine q_iload_n dX10_send_36 rfl ?_
    refine q_iald 235 (_) hn (is_235 n) rfl (by show _ < 16; omega) dX10_send_37 ?_
    refine q_iconst (2) dX10_send_38 (by decide) ?_
    refine q_iload_n dX10_send_39 rfl ?_
    refine q_iload_n dX10_send_40 rfl ?_
    refine q_iconst (-1) dX10_send_41 (by decide) ?_
    rw [he.1]
    refine q_calli [.int _, .int _, .int _, .int _, .int _] o_X10_put rfl k_X10_212 rfl (is_30 n) (by decide) rfl dX10_send_42 (Nat.le_of_ble_eq_true rfl) (by omega) (by decide) (by omega) (Or.inr rfl) (r_put l n (d - 1) I L (N (I 235 c)) 2 (nI c) m (-1) hn (by have := he.2; omega) hq hc (by omega) (by omega)) (fun _ _ _ h => h.elim) (fun r1 I1 L1 hq1 => ?_)
    obtain ⟨e1, e2, e3⟩ := hq1
    cases e1
    subst e2
    cases e3.symm
    exact q_zret dX10_send_45 rfl (by omega) bI_nar ⟨by rw [← he.1, if_neg hcn], by rw [Rsend, if_neg hcn], rfl⟩
  refine q_aload_n dX10_send_0 rfl ?_
  refine q_getI 30 10 51 (is_30 n) (by decide) rfl (by decide) f_X10_189 rfl dX10_send_1 ?_
  refine q_aload_n dX10_send_4 rfl ?_
  refine q_getR 30 10 35 235 (is_30 n) (by decide) rfl rfl (by decide) f_X10_93 rfl dX10_send_5 ?_
  refine q_iload_n dX10_send_8 rfl ?_
  refine q_iald 235 (_) hn (is_235 n) rfl (by show _ < 16; omega) dX10_send_9 ?_
  refine q_icmp_ne 31 dX10_send_10 (by decide) (fun h10 => ?_) (fun h10 => ?_)
  · exact key (fun q => h10 q.1.symm)
  · refine q_aload_n dX10_send_13 rfl ?_
    refine q_iconst (4) dX10_send_14 (by decide) ?_
    refine q_calli [.int _] o_X10_frames rfl k_X10_206 rfl (is_30 n) (by decide) rfl dX10_send_15 (Nat.le_of_ble_eq_true rfl) (by omega) (by decide) (by omega) (Or.inl rfl) (r_frames l n (d - 1) I L 4 D hn hD (by omega)) (fun _ _ _ h => h.elim) (fun r1 I1 L1 hq1 => ?_)
    obtain ⟨e1, e2, e3⟩ := hq1
    cases e1
    cases e2.symm
    cases e3.symm
    refine q_iconst (4) dX10_send_18 (by decide) ?_
    refine q_icmp_ge 31 dX10_send_19 (by decide) (fun h19 => key (fun q => (lt4 (Rcnt_le I 4 D) (by omega)).mp h19 q.2)) (fun h19 => ?_)
    have hc4 : Rcnt I 4 D < 4 := Decidable.byContradiction (fun q => h19 ((lt4 (Rcnt_le I 4 D) (by omega)).mpr q))
    refine q_aload_n dX10_send_22 rfl ?_
    refine q_iconst (4) dX10_send_23 (by decide) ?_
    refine q_iload_n dX10_send_24 rfl ?_
    refine q_iload_n dX10_send_25 rfl ?_
    refine q_callv [.int _, .int _, .int _] o_X10_push rfl k_X10_209 rfl (is_30 n) (by decide) rfl dX10_send_26 (Nat.le_of_ble_eq_true rfl) (by omega) (by decide) (by omega) rfl (r_push l n (d - 1) I L D 4 (nI c) m hn hD hDb) (fun _ _ _ h => h.elim) (fun I1 L1 hq1 => ?_)
    obtain ⟨-, e2, e3⟩ := hq1
    subst e2
    cases e3.symm
    refine q_iconst (1) dX10_send_29 (by decide) ?_
    exact q_zret dX10_send_30 rfl (by omega) (by decide) ⟨by rw [if_pos ⟨h10.symm, hc4⟩], by rw [Rsend, if_pos ⟨h10.symm, hc4⟩], rfl⟩
set_option maxHeartbeats 4000000 in
set_option maxRecDepth 100000 in
theorem r_listenAt (D p t : Nat) (hn : n < 2 ^ 31) (hn8 : n ≤ 8) (hD : I 30 45 = nI D) (hDb : D < 80) (hp : p < 32) (he : nbt (I 228 p) n) (hq : nb (I 209 (N (I 228 p))) 24) (hw : nb (I 232 p) 6) (hw6 : I 229 p ≠ 0 ∨ I 232 p < 6) (hc : I 30 41 = nI (tr I)) (hcb : tr I + 1 < 2 ^ 31) (hd : 4 ≤ d) : VM l n m_X10_listenAt d 0 [.ref 30, .int (nI p), .int (nI t)] I L (fun r I' L' => r = none ∧ I' = Rlis I D p t ∧ L' = L) noX := by
  refine VM_of _ [(0, .ref 30), (1, .int (nI p)), (2, .int (nI t))] rfl (fun a => Nat.le_of_ble_eq_true rfl) rfl ?_
  refine q_aload_n dX10_listenAt_0 rfl ?_
  refine q_getR 30 10 29 229 (is_30 n) (by decide) rfl rfl (by decide) f_X10_78 rfl dX10_listenAt_1 ?_
  refine q_iload_n dX10_listenAt_4 rfl ?_
  refine q_iald 229 (_) hn (is_229 n) rfl (by show _ < 32; omega) dX10_listenAt_5 ?_
  refine q_if_eq 16 dX10_listenAt_6 (by decide) (fun h6 => ?_) (fun h6 => ?_)
  · have hm := nb_ltN hw (by decide) (hw6.resolve_left (fun q => q h6))
    have e1 : (6 : Int32) * nI p + I 232 p = nI (6 * p + N (I 232 p)) := by
      conv => lhs; rw [hw.1]
      exact idx 6 p _
    refine q_aload_n dX10_listenAt_16 rfl ?_
    refine q_getR 30 10 33 233 (is_30 n) (by decide) rfl rfl (by decide) f_X10_90 rfl dX10_listenAt_17 ?_
    refine q_bipush (6) dX10_listenAt_20 (by decide) ?_
    refine q_iload_n dX10_listenAt_22 rfl ?_
    refine q_imul dX10_listenAt_23 ?_
    refine q_aload_n dX10_listenAt_24 rfl ?_
    refine q_getR 30 10 32 232 (is_30 n) (by decide) rfl rfl (by decide) f_X10_87 rfl dX10_listenAt_25 ?_
    refine q_iload_n dX10_listenAt_28 rfl ?_
    refine q_iald 232 (_) hn (is_232 n) rfl (by show _ < 32; omega) dX10_listenAt_29 ?_
    refine q_iadd dX10_listenAt_30 ?_
    rw [e1]
    refine q_iload_n dX10_listenAt_31 rfl ?_
    refine q_iast 233 (_) hn (is_233 n) rfl (by show _ < 192; omega) dX10_listenAt_32 ?_
    refine q_aload_n dX10_listenAt_33 rfl ?_
    refine q_getR 30 10 32 232 (is_30 n) (by decide) rfl rfl (by decide) f_X10_87 rfl dX10_listenAt_34 ?_
    refine q_iload_n dX10_listenAt_37 rfl ?_
    refine q_dup2 dX10_listenAt_38 rfl rfl ?_
    refine q_iald 232 (_) hn (is_232 n) rfl (by show _ < 32; omega) dX10_listenAt_39 ?_
    refine q_iconst (1) dX10_listenAt_40 (by decide) ?_
    refine q_iadd dX10_listenAt_41 ?_
    refine q_iast 232 (_) hn (is_232 n) rfl (by show _ < 32; omega) dX10_listenAt_42 ?_
    refine q_vret dX10_listenAt_43 rfl (by omega) ⟨rfl, ?_, rfl⟩
    rw [Rlis, if_neg (fun q => q h6), Flis]
    simp [rdI]
  · refine q_aload_n dX10_listenAt_9 rfl ?_
    refine q_iload_n dX10_listenAt_10 rfl ?_
    refine q_iload_n dX10_listenAt_11 rfl ?_
    refine q_callv [.int _, .int _] o_X10_notify rfl k_X10_253 rfl (is_30 n) (by decide) rfl dX10_listenAt_12 (Nat.le_of_ble_eq_true rfl) (by omega) (by decide) (by omega) rfl (r_notify l n (d - 1) I L D p (nI t) hn hn8 hD hDb hp he hq hc hcb (by omega)) (fun _ _ _ h => h.elim) (fun I1 L1 hq1 => ?_)
    obtain ⟨-, e2, e3⟩ := hq1
    subst e2
    cases e3.symm
    exact q_vret dX10_listenAt_15 rfl (by omega) ⟨rfl, by rw [Rlis, if_pos h6], rfl⟩
set_option maxHeartbeats 4000000 in
set_option maxRecDepth 100000 in
theorem r_await (D p : Nat) (hn : n < 2 ^ 31) (hn8 : n ≤ 8) (hD : I 30 45 = nI D) (hDb : D < 80) (hp : p < 32) (hth : nbt (I 30 51) n) (hc : I 30 41 = nI (tr I)) (hcb : tr I < 2 ^ 31) (hd : 1 ≤ d) : VM l n m_X10_await d 0 [.ref 30, .int (nI p)] I L (fun r I' L' => r = none ∧ I' = Rawait I D p ∧ L' = L) noX := by
  refine VM_of _ [(0, .ref 30), (1, .int (nI p))] rfl (fun a => Nat.le_of_ble_eq_true rfl) rfl ?_
  have h8 := hth.2
  have klog : ¬ I 229 p ≠ 0 → (1 < D ∨ I 228 p = I 30 51) → VP l n m_X10_await d 0 (fun r I' L' => r = none ∧ I' = Rawait I D p ∧ L' = L) noX 0 31 [(0, .ref 30), (1, .int (nI p))] [] I L := by
    intro h0 h
    refine q_aload_n dX10_await_31 rfl ?_
    refine q_aload_n dX10_await_32 rfl ?_
    refine q_getI 30 10 51 (is_30 n) (by decide) rfl (by decide) f_X10_189 rfl dX10_await_33 ?_
    refine q_iconst (3) dX10_await_36 (by decide) ?_
    refine q_iload_n dX10_await_37 rfl ?_
    refine q_callv [.int _, .int _, .int _] o_X10_log rfl k_X10_155 rfl (is_30 n) (by decide) rfl dX10_await_38 (Nat.le_of_ble_eq_true rfl) (by omega) (by decide) (by omega) rfl (r_log l n hn (d - 1) I L (tr I) (I 30 51) 3 (nI p) hc hcb) (fun _ _ _ h => h.elim) (fun I1 L1 hq1 => ?_)
    obtain ⟨-, e2, e3⟩ := hq1
    cases e3.symm
    exact q_vret dX10_await_41 rfl (by omega) ⟨rfl, by rw [Rawait, if_neg h0, if_pos h, e2]; rfl, rfl⟩
  refine q_aload_n dX10_await_0 rfl ?_
  refine q_getR 30 10 29 229 (is_30 n) (by decide) rfl rfl (by decide) f_X10_78 rfl dX10_await_1 ?_
  refine q_iload_n dX10_await_4 rfl ?_
  refine q_iald 229 (_) hn (is_229 n) rfl (by show _ < 32; omega) dX10_await_5 ?_
  refine q_if_eq 10 dX10_await_6 (by decide) (fun h6 => ?_) (fun h6 => ?_)
  · have h0 : ¬ I 229 p ≠ 0 := fun q => q h6
    refine q_aload_n dX10_await_10 rfl ?_
    refine q_getI 30 10 45 (is_30 n) (by decide) rfl (by decide) f_X10_203 rfl dX10_await_11 ?_
    refine q_iconst (1) dX10_await_14 (by decide) ?_
    rw [hD]
    refine q_icmp_gt 31 dX10_await_15 (by decide) (fun h15 => klog h0 (Or.inl ((nI_ltI (by decide) (by omega)).mp h15))) (fun h15 => ?_)
    refine q_aload_n dX10_await_18 rfl ?_
    refine q_getR 30 10 28 228 (is_30 n) (by decide) rfl rfl (by decide) f_X10_75 rfl dX10_await_19 ?_
    refine q_iload_n dX10_await_22 rfl ?_
    refine q_iald 228 (_) hn (is_228 n) rfl (by show _ < 32; omega) dX10_await_23 ?_
    refine q_aload_n dX10_await_24 rfl ?_
    refine q_getI 30 10 51 (is_30 n) (by decide) rfl (by decide) f_X10_189 rfl dX10_await_25 ?_
    refine q_icmp_ne 42 dX10_await_28 (by decide) (fun h28 => ?_) (fun h28 => klog h0 (Or.inr h28))
    refine q_aload_n dX10_await_42 rfl ?_
    refine q_getR 30 10 14 214 (is_30 n) (by decide) rfl rfl (by decide) f_X10_40 rfl dX10_await_43 ?_
    refine q_aload_n dX10_await_46 rfl ?_
    refine q_getI 30 10 51 (is_30 n) (by decide) rfl (by decide) f_X10_189 rfl dX10_await_47 ?_
    refine q_iconst (1) dX10_await_50 (by decide) ?_
    refine q_zast 214 (N (I 30 51)) hn (is_214 n) hth.1 (by show _ < 8; omega) (by decide) dX10_await_51 ?_
    refine q_aload_n dX10_await_52 rfl ?_
    refine q_getR 30 10 15 215 (is_30 n) (by decide) rfl rfl (by decide) f_X10_44 rfl dX10_await_53 ?_
    refine q_aload_n dX10_await_56 rfl ?_
    refine q_getI 30 10 51 (is_30 n) (by decide) rfl (by decide) f_X10_189 rfl dX10_await_57 ?_
    refine q_aload_n dX10_await_60 rfl ?_
    refine q_getR 30 10 47 247 (is_30 n) (by decide) rfl rfl (by decide) f_X10_120 rfl dX10_await_61 ?_
    refine q_iconst (0) dX10_await_64 (by decide) ?_
    refine q_iald 247 (0) hn (is_247 n) rfl (by show _ < 80; omega) dX10_await_65 ?_
    refine q_iast 215 (N (I 30 51)) hn (is_215 n) (by simpa [rdI] using hth.1) (by show _ < 8; omega) dX10_await_66 ?_
    refine q_aload_n dX10_await_67 rfl ?_
    refine q_getR 30 10 16 216 (is_30 n) (by decide) rfl rfl (by decide) f_X10_47 rfl dX10_await_68 ?_
    refine q_aload_n dX10_await_71 rfl ?_
    refine q_getI 30 10 51 (is_30 n) (by decide) rfl (by decide) f_X10_189 rfl dX10_await_72 ?_
    refine q_aload_n dX10_await_75 rfl ?_
    refine q_getR 30 10 48 248 (is_30 n) (by decide) rfl rfl (by decide) f_X10_123 rfl dX10_await_76 ?_
    refine q_iconst (0) dX10_await_79 (by decide) ?_
    refine q_iald 248 (0) hn (is_248 n) rfl (by show _ < 80; omega) dX10_await_80 ?_
    refine q_iast 216 (N (I 30 51)) hn (is_216 n) (by simpa [rdI] using hth.1) (by show _ < 8; omega) dX10_await_81 ?_
    refine q_aload_n dX10_await_82 rfl ?_
    refine q_getR 30 10 17 217 (is_30 n) (by decide) rfl rfl (by decide) f_X10_50 rfl dX10_await_83 ?_
    refine q_aload_n dX10_await_86 rfl ?_
    refine q_getI 30 10 51 (is_30 n) (by decide) rfl (by decide) f_X10_189 rfl dX10_await_87 ?_
    refine q_iload_n dX10_await_90 rfl ?_
    refine q_iast 217 (N (I 30 51)) hn (is_217 n) (by simpa [rdI] using hth.1) (by show _ < 8; omega) dX10_await_91 ?_
    refine q_aload_n dX10_await_92 rfl ?_
    refine q_iconst (0) dX10_await_93 (by decide) ?_
    refine q_putI 30 10 45 (is_30 n) (by decide) rfl (by decide) rfl rfl f_X10_203 rfl dX10_await_94 ?_
    refine q_vret dX10_await_97 rfl (by omega) ⟨rfl, ?_, rfl⟩
    rw [Rawait, if_neg h0, if_neg (fun q => q.elim (fun z => h15 ((nI_ltI (by decide) (by omega)).mpr z)) h28)]
    simp [rdI]
  · exact q_vret dX10_await_9 rfl (by omega) ⟨rfl, by rw [Rawait, if_pos h6], rfl⟩
set_option maxHeartbeats 4000000 in
set_option maxRecDepth 100000 in
theorem r_host : VM l n m_X10_host d 0 [.ref 30] I L (fun r I' L' => r = none ∧ I' = upI (upI I 30 51 (-1)) 30 45 0 ∧ L' = L) noX := by
  refine VM_of _ [(0, .ref 30)] rfl (fun a => Nat.le_of_ble_eq_true rfl) rfl ?_
  refine q_aload_n dX10_host_0 rfl ?_
  refine q_iconst (-1) dX10_host_1 (by decide) ?_
  refine q_putI 30 10 51 (is_30 n) (by decide) rfl (by decide) rfl rfl f_X10_189 rfl dX10_host_2 ?_
  refine q_aload_n dX10_host_5 rfl ?_
  refine q_iconst (0) dX10_host_6 (by decide) ?_
  refine q_putI 30 10 45 (is_30 n) (by decide) rfl (by decide) rfl rfl f_X10_203 rfl dX10_host_7 ?_
  exact q_vret dX10_host_10 rfl (by omega) ⟨rfl, rfl, rfl⟩
set_option maxHeartbeats 4000000 in
set_option maxRecDepth 100000 in
theorem r_thrown : VM l n m_X10_thrown d 0 [.ref 30] I L (fun r I' L' => r = some (.int (I 30 0)) ∧ I' = I ∧ L' = L) noX := by
  refine VM_of _ [(0, .ref 30)] rfl (fun a => Nat.le_of_ble_eq_true rfl) rfl ?_
  refine q_aload_n dX10_thrown_0 rfl ?_
  refine q_getI 30 10 0 (is_30 n) (by decide) rfl (by decide) f_X10_136 rfl dX10_thrown_1 ?_
  exact q_iret dX10_thrown_4 rfl (by omega) ⟨rfl, rfl, rfl⟩
set_option maxHeartbeats 4000000 in
set_option maxRecDepth 100000 in
theorem r_shut_lp {Q : vq_R} (q t : Int32) (hn : n < 2 ^ 31) (hn8 : n ≤ 8) (h1 : I 30 1 = nI n) (hd : 2 ≤ d) (hc : ∀ k, k ≤ n → Fshut I k 30 41 = nI (tr (Fshut I k)) ∧ tr (Fshut I k) < 2 ^ 31) (hQ : Q none (Fshut I n) (TShut I L q.toInt64 t.toInt64 n)) : ∀ m k, k + m = n → VP l n m_X10_shut d 0 Q noX 0 2 [(3, .int (nI k)), (0, .ref 30), (1, .int q), (2, .int t)] [] (Fshut I k) (TShut I L q.toInt64 t.toInt64 k) := by
  have hfix : ∀ k, Fshut I k 30 1 = I 30 1 := by
    intro k
    induction k with
    | zero => rfl
    | succ k ih => simp only [Fshut]; split <;> simp [Fbec, Flog, Rlog, rdI, ih]
  have hclk : ∀ k, TShut I L q.toInt64 t.toInt64 k 30 2 = L 30 2 := by
    intro k
    induction k with
    | zero => rfl
    | succ k ih => simp only [TShut]; split <;> simp [rdL, ih]
  intro m
  induction m with
  | zero =>
    intro k hk
    refine q_iload_n dX10_shut_2 rfl ?_
    refine q_aload_n dX10_shut_3 rfl ?_
    refine q_getI 30 10 1 (is_30 n) (by decide) rfl (by decide) f_X10_132 rfl dX10_shut_4 ?_
    rw [hfix, h1]
    refine q_icmp_ge 68 dX10_shut_7 (by decide) (fun _ => ?_) (fun z => absurd (nI_le (by omega) (by omega)) z)
    rw [show k = n by omega]
    exact q_vret dX10_shut_68 rfl (by omega) hQ
  | succ m ih =>
    intro k hk
    refine q_iload_n dX10_shut_2 rfl ?_
    refine q_aload_n dX10_shut_3 rfl ?_
    refine q_getI 30 10 1 (is_30 n) (by decide) rfl (by decide) f_X10_132 rfl dX10_shut_4 ?_
    rw [hfix, h1]
    refine q_icmp_ge 68 dX10_shut_7 (by decide) (fun z => absurd z (nI_ge (by omega) (by omega))) (fun _ => ?_)
    refine q_aload_n dX10_shut_10 rfl ?_
    refine q_getR 30 10 8 208 (is_30 n) (by decide) rfl rfl (by decide) f_X10_22 rfl dX10_shut_11 ?_
    refine q_iload_n dX10_shut_14 rfl ?_
    refine q_iald 208 (_) hn (is_208 n) rfl (by show _ < 8; omega) dX10_shut_15 ?_
    refine q_iconst (3) dX10_shut_16 (by decide) ?_
    refine q_icmp_ge 62 dX10_shut_17 (by decide) (fun h17 => ?_) (fun h17 => ?_)
    · have h17' : ¬ Fshut I k 208 k < 3 := Int32.not_lt.mpr h17
      refine q_iinc [(3, _), (0, _), (1, _), (2, _)] (nI (k + 1)) dX10_shut_62 rfl (nI_1 k) (by decide) rfl ?_
      refine q_goto 2 dX10_shut_65 (by decide) ?_
      have hz := ih (k + 1) (by omega)
      simp only [Fshut, TShut, if_neg h17'] at hz
      exact hz
    · have h17' : Fshut I k 208 k < 3 := Int32.not_le.mp h17
      refine q_aload_n dX10_shut_20 rfl ?_
      refine q_getR 30 10 18 218 (is_30 n) (by decide) rfl rfl (by decide) f_X10_53 rfl dX10_shut_21 ?_
      refine q_iload_n dX10_shut_24 rfl ?_
      refine q_iload_n dX10_shut_25 rfl ?_
      refine q_i2l dX10_shut_26 ?_
      refine q_last 218 (_) hn (is_218 n) rfl (by show _ < 8; omega) dX10_shut_27 ?_
      refine q_aload_n dX10_shut_28 rfl ?_
      refine q_getR 30 10 19 219 (is_30 n) (by decide) rfl rfl (by decide) f_X10_57 rfl dX10_shut_29 ?_
      refine q_iload_n dX10_shut_32 rfl ?_
      refine q_iload_n dX10_shut_33 rfl ?_
      refine q_i2l dX10_shut_34 ?_
      refine q_last 219 (_) hn (is_219 n) rfl (by show _ < 8; omega) dX10_shut_35 ?_
      refine q_aload_n dX10_shut_36 rfl ?_
      refine q_getR 30 10 20 220 (is_30 n) (by decide) rfl rfl (by decide) f_X10_60 rfl dX10_shut_37 ?_
      refine q_iload_n dX10_shut_40 rfl ?_
      refine q_aload_n dX10_shut_41 rfl ?_
      refine q_getL 30 10 2 (is_30 n) (by decide) rfl (by decide) f_X10_182 rfl dX10_shut_42 ?_
      refine q_last 220 (_) hn (is_220 n) rfl (by show _ < 8; omega) dX10_shut_45 ?_
      refine q_aload_n dX10_shut_46 rfl ?_
      refine q_getR 30 10 21 221 (is_30 n) (by decide) rfl rfl (by decide) f_X10_63 rfl dX10_shut_47 ?_
      refine q_iload_n dX10_shut_50 rfl ?_
      refine q_aload_n dX10_shut_51 rfl ?_
      refine q_getL 30 10 2 (is_30 n) (by decide) rfl (by decide) f_X10_182 rfl dX10_shut_52 ?_
      refine q_last 221 (_) hn (is_221 n) rfl (by show _ < 8; omega) dX10_shut_55 ?_
      refine q_aload_n dX10_shut_56 rfl ?_
      refine q_iload_n dX10_shut_57 rfl ?_
      refine q_iconst (3) dX10_shut_58 (by decide) ?_
      simp only [rdL]
      simp only [hclk]
      refine q_callv [.int _, .int _] o_X10_become rfl k_X10_192 rfl (is_30 n) (by decide) rfl dX10_shut_59 (Nat.le_of_ble_eq_true rfl) (by omega) (by decide) (by omega) rfl (r_become l n (d - 1) (Fshut I k) _ k 3 hn (by omega) (hc k (by omega)).1 (hc k (by omega)).2 (by omega)) (fun _ _ _ h => h.elim) (fun I1 L1 hq1 => ?_)
      obtain ⟨-, e2, e3⟩ := hq1
      subst e2
      cases e3.symm
      refine q_iinc [(3, _), (0, _), (1, _), (2, _)] (nI (k + 1)) dX10_shut_62 rfl (nI_1 k) (by decide) rfl ?_
      refine q_goto 2 dX10_shut_65 (by decide) ?_
      have hz := ih (k + 1) (by omega)
      simp only [Fshut, TShut, if_pos h17'] at hz
      simpa using hz
set_option maxHeartbeats 4000000 in
set_option maxRecDepth 100000 in
theorem r_shut (q t : Int32) (hn : n < 2 ^ 31) (hn8 : n ≤ 8) (h1 : I 30 1 = nI n) (hd : 2 ≤ d) (hc : ∀ k, k ≤ n → Fshut I k 30 41 = nI (tr (Fshut I k)) ∧ tr (Fshut I k) < 2 ^ 31) : VM l n m_X10_shut d 0 [.ref 30, .int q, .int t] I L (fun r I' L' => r = none ∧ I' = Fshut I n ∧ L' = TShut I L q.toInt64 t.toInt64 n) noX := by
  refine VM_of _ [(0, .ref 30), (1, .int q), (2, .int t)] rfl (fun a => Nat.le_of_ble_eq_true rfl) rfl ?_
  refine q_iconst (0) dX10_shut_0 (by decide) ?_
  refine q_istore_n [(3, _), (0, _), (1, _), (2, _)] dX10_shut_1 (by decide) rfl ?_
  exact r_shut_lp l n d I L q t hn hn8 h1 hd hc ⟨rfl, rfl, rfl⟩ n 0 (by omega)
end

