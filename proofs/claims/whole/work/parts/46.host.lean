/-! ===== what each call of the host does ===== -/
def Htask (S : MI) (T : ML) : HR := if S 30 3 < 24 then (0, S 30 3, Ftask S, T) else (1, 0, S, T)
def Horder (S : MI) (T : ML) (t k a b : Int32) : HR := if isT S t ∧ 0 ≤ k ∧ k ≤ 13 then (if S 204 (N t) < 8 then (0, S 204 (N t) + 1, Ford S (N t) k a b, T) else (2, 0, S, T)) else (1, 0, S, T)
def Hpromise (n : Nat) (S : MI) (T : ML) (x : Int32) : HR := if isL n x then (if S 30 27 < 32 then (0, S 30 27, Fpadd S x, T) else (2, 0, S, T)) else (1, 0, S, T)
def Hchannels (n : Nat) (S : MI) (T : ML) (x z : Int32) : HR := if isL n x ∧ isL n z then (if S 30 34 < 16 then (0, S 30 34, Fpair S x z, T) else (2, 0, S, T)) else (1, 0, S, T)
def Hhandler (S : MI) (T : ML) (c k t p : Int32) : HR :=
  if isC S c then
    if p = -1 then (if (0 ≤ k ∧ k ≤ 6) ∧ (k = 4 → isT S t) then (if S 236 (N c) < 6 then (0, S 30 40, Fhadd S (N c) k t, T) else (2, 0, S, T)) else (1, 0, S, T))
    else (if 0 ≤ p ∧ p < S 236 (N c) then (0, S 239 (6 * N c + N p), Fhrem S (N c) (N p), T) else (1, 0, S, T))
  else (1, 0, S, T)
def Hadvance (T : ML) (x : Int32) : Int32 × Int64 × ML := if 0 ≤ x ∧ x ≤ 1000000 then (0, T 30 2 + x.toInt64, upL T 30 2 (T 30 2 + x.toInt64)) else (1, 0, T)
def Hon (n : Nat) (S : MI) (x : Int32) : Int32 := if x = -2 then Fch n (S 30 22) else x
def Hexecute (n : Nat) (S : MI) (T : ML) (t x : Int32) : HR :=
  if isT S t ∧ (x = -2 ∨ isL n x) then (if rej (FtgtS S x) (N (Hon n S x)) then (2, 0, Fput (FtgtS S x) (-1) (N (Hon n S x)) 0 t 0 t, T) else (0, Hon n S x, Fput (FtgtS S x) (-1) (N (Hon n S x)) 0 t 0 t, T)) else (1, 0, S, T)
def Htimer (n : Nat) (S : MI) (T : ML) (t dl x : Int32) : HR :=
  if isT S t ∧ 0 ≤ dl ∧ isL n x then (if rejT S (N x) then (2, 0, Fsch S (-1) (N x) t, TSch S T (N x) dl.toInt64) else (0, S 30 23, Fsch S (-1) (N x) t, TSch S T (N x) dl.toInt64)) else (1, 0, S, T)
abbrev okCan (S : MI) (t : Int32) : Prop := 0 ≤ t ∧ t < S 30 23 ∧ 0 ≤ S 226 (N t)
def Hcancel (S : MI) (T : ML) (t : Int32) : HR := (0, bI (okCan S t), if okCan S t then upI S 226 (N t) (-1) else S, T)
def idD : Nat → Nat → Nat → PX → PX := fun _ _ _ x => x
def idG : Nat → Nat → Nat → Int32 → PX → PX := fun _ _ _ _ x => x
def Hcomplete (S : MI) (T : ML) (p how v : Int32) : HR :=
  if isP S p ∧ 1 ≤ how ∧ how ≤ 4 then (if how = 4 then (0, bI (S 229 (N p) = 0), upI S 231 (N p) 1, T) else (0, bI (¬ noFin S (N p) how), (Lfin idD (-1) 0 0 (N p) how v (S, T, 0)).1, (Lfin idD (-1) 0 0 (N p) how v (S, T, 0)).2.1)) else (1, 0, S, T)
def Hlisten (S : MI) (T : ML) (p t : Int32) : HR :=
  if isP S p ∧ isT S t ∧ (S 229 (N p) ≠ 0 ∨ S 232 (N p) < 6) then (0, 0, (Llis idD (-1) 0 0 (N p) (N t) (S, T, 0)).1, (Llis idD (-1) 0 0 (N p) (N t) (S, T, 0)).2.1) else (1, 0, S, T)
def Hfire (S : MI) (T : ML) (c m : Int32) : HR :=
  if isC S c then (if rej S (N (S 235 (N c))) then (2, 0, Fput S (-1) (N (S 235 (N c))) 2 c m (-1), T) else (0, 0, Fput S (-1) (N (S 235 (N c))) 2 c m (-1), T)) else (1, 0, S, T)
def Hshutdown (n : Nat) (S : MI) (T : ML) (q t : Int32) : HR := if 0 ≤ q ∧ q ≤ t then (0, 0, Fshut S n, TShut S T q.toInt64 t.toInt64 n) else (1, 0, S, T)
def Hstep (n : Nat) (S : MI) (T : ML) (x : Int32) : HR := if isL n x then (0, (Lstep n S T (N x)).1, (Lstep n S T (N x)).2.1, (Lstep n S T (N x)).2.2) else (1, 0, S, T)
def Hloop (n : Nat) (S : MI) (T : ML) (x what : Int32) : HR :=
  if isL n x ∧ 0 ≤ what ∧ what ≤ 4 then (0, (if what = 0 then S 208 (N x) else if what = 1 then S 209 (N x) else if what = 2 then nI (Fcnt S (N x) (N (S 30 23))) else if what = 3 then bI (S 214 (N x) ≠ 0) else S 210 (N x)), S, T) else (1, 0, S, T)
def Hlook (S : MI) (T : ML) (p what : Int32) : HR :=
  if isP S p ∧ 0 ≤ what ∧ what ≤ 2 then (0, (if what = 0 then S 229 (N p) else if what = 1 then S 230 (N p) else S 232 (N p)), S, T) else (1, 0, S, T)
def Htraced (S : MI) (T : ML) : HR := (0, S 30 41, S, T)
def Htrace (S : MI) (T : ML) (k what : Int32) : HR :=
  if 0 ≤ what ∧ what ≤ 2 then (if (0 ≤ k ∧ k < S 30 41) ∧ S 30 41 ≤ k + 300 then (0, (if what = 0 then S 242 (N k % 300) else if what = 1 then S 243 (N k % 300) else S 244 (N k % 300)), S, T) else (2, 0, S, T)) else (1, 0, S, T)
/-! of a host's thread nothing runs -/
theorem tells_id (th : Int32) (nf fr p k : Nat) : ∀ (m : Nat) (S : MI) (T : ML) (w : Nat), (Ltells idD th nf fr p k m (S, T, w)).1 = (Ltells idD th nf fr p k m (S, T, 0)).1 ∧ (Ltells idD th nf fr p k m (S, T, w)).2.1 = T ∧ (Ltells idD th nf fr p k m (S, T, w)).2.2 = w
  | 0, S, T, w => ⟨rfl, rfl, rfl⟩
  | m + 1, S, T, w => by
    have key : ∀ w, ∃ S', Ltell idD th nf fr p (N (S 233 (6 * p + (k - (m + 1))))) (S, T, w) = (S', T, w) ∧ Ltell idD th nf fr p (N (S 233 (6 * p + (k - (m + 1))))) (S, T, 0) = (S', T, 0) := by
      intro w
      by_cases hc : S 228 p = th ∧ nf < 4
      · exact ⟨_, by rw [Ltell, if_pos hc]; rfl, by rw [Ltell, if_pos hc]; rfl⟩
      · exact ⟨_, by rw [Ltell, if_neg hc], by rw [Ltell, if_neg hc]⟩
    obtain ⟨S', k1, k2⟩ := key w
    simp only [Ltells, k1, k2]
    obtain ⟨a1, a2, a3⟩ := tells_id th nf fr p k m S' T w
    exact ⟨a1, a2, a3⟩
theorem fin_id (th : Int32) (nf fr p : Nat) (how v : Int32) (S : MI) (T : ML) (w : Nat) : (Lfin idD th nf fr p how v (S, T, w)).1 = (Lfin idD th nf fr p how v (S, T, 0)).1 ∧ (Lfin idD th nf fr p how v (S, T, w)).2.1 = (Lfin idD th nf fr p how v (S, T, 0)).2.1 := by
  unfold Lfin
  by_cases hc : noFin S p how
  · simp only [if_pos hc, and_self]
  · simp only [if_neg hc]
    obtain ⟨a1, a2, a3⟩ := tells_id th nf fr p (N (S 232 p)) (N (S 232 p)) (Ffin S p how v) T w
    exact ⟨a1, a2.trans (tells_id th nf fr p (N (S 232 p)) (N (S 232 p)) (Ffin S p how v) T 0).2.1.symm⟩
theorem lis_id (th : Int32) (nf fr p t : Nat) (S : MI) (T : ML) (w : Nat) : (Llis idD th nf fr p t (S, T, w)).1 = (Llis idD th nf fr p t (S, T, 0)).1 ∧ (Llis idD th nf fr p t (S, T, w)).2.1 = (Llis idD th nf fr p t (S, T, 0)).2.1 := by
  unfold Llis Ltell idD
  by_cases hc : S 229 p = 0 <;> by_cases hc2 : S 228 p = th ∧ nf < 4 <;> simp [hc, hc2]
section
variable (l : Launch) (n : Nat) (hn : n < 2 ^ 31) (d : Nat) (I : MI) (L : ML)
theorem Ftgt_ok' {n : Nat} {S : MI} {x : Int32} (h : Inv n S) (hx : x = -2 ∨ isL n x) : Hon n S x = nI (N (Hon n S x)) ∧ N (Hon n S x) < n := by
  unfold Hon
  by_cases h2 : x = -2
  · rw [if_pos h2]
    obtain ⟨j, hj, e⟩ := Fch_lt h.1 (S 30 22)
    rw [e, N_nI (by have := h.1.2; omega)]
    exact ⟨rfl, hj⟩
  · rw [if_neg h2]
    exact isL_nbt h.1.2 (hx.resolve_left h2)
theorem le34 {x : Int32} (h : x ≤ 4) (h3 : ¬ x ≤ 3) : x = 4 := by
  rw [← Int32.toInt_inj]
  simp only [Int32.le_iff_toInt_le, show (3 : Int32).toInt = 3 from rfl, show (4 : Int32).toInt = 4 from rfl] at h h3 ⊢
  omega
theorem tr_keep {c : Int32} {m : Nat} {k : Int32} (hc : c = nI m) (hm : m + 400 < 2 ^ 31) : (0 ≤ k ∧ k < c ∧ c - 300 ≤ k) ↔ ((0 ≤ k ∧ k < c) ∧ c ≤ k + 300) := by
  subst hc
  by_cases h0 : 0 ≤ k
  · obtain ⟨j, hj, rfl⟩ := nI_of (Int32.not_lt.mpr h0)
    by_cases h1 : nI j < nI m
    · have hjm := (nI_ltI hj (by omega)).mp h1
      rw [show (300 : Int32) = nI 300 from rfl, nI_add, nI_leI (by omega) (by omega)]
      simp only [h0, h1, true_and]
      rw [Int32.le_iff_toInt_le, nI_toInt hj]
      have e : (nI m - nI 300).toInt = (m : Int) - 300 := by
        rw [Int32.toInt_sub, nI_toInt (by omega), nI_toInt (by decide)]
        exact Int.bmod_eq_of_le (by omega) (by omega)
      rw [e]
      omega
    · simp only [h1, false_and, and_false]
  · simp only [h0, false_and]
theorem q_wk {l : Launch} {n : Nat} {y : vq_M} {d K : Nat} {Q : vq_R} {QX : vq_RX} {k k' pc : Nat} {lv : List (Nat × Value)} {st : List Value} {I : MI} {L : ML} (h : VP l n y d K Q QX k' pc lv st I L) (hk : k ≤ k') : VP l n y d K Q QX k pc lv st I L := by
  intro p e s m args below meth c a cs D A H locs ls C hP hD hS hl
  exact W.widen hk (by omega) (h p e s m args below meth c a cs D A H locs ls C hP hD hS hl)
set_option maxHeartbeats 8000000 in
set_option maxRecDepth 100000 in
theorem h_task {S J : MI} {T M : ML} {w : Nat} (hl : l.stackTraces = false) (hn : n < 2 ^ 31) (h : CX n S T w 0 0 J M I L) (hd : 170 ≤ d) : VM l n m_X9_task d 3 [.ref 0] I L (hN n J M (Htask S T)) (hX ise "" n J M (Htask S T)) := by
  refine VM_of _ [(0, .ref 0)] rfl (fun a => Nat.le_of_ble_eq_true rfl) rfl ?_
  have e4 : I 4 4 = S 30 3 := h.1.2.1.1
  refine q_aload_n dX9_task_0 rfl ?_
  refine q_getR 0 9 3 4 (is_0 n) (by decide) rfl rfl (by decide) f_X9_34 rfl dX9_task_1 ?_
  refine q_getI 4 6 4 (is_4 n) (by decide) rfl (by decide) f_X9_45 rfl dX9_task_4 ?_
  refine q_bipush (24) dX9_task_7 (by decide) ?_
  rw [e4]
  refine q_icmp_lt 22 dX9_task_9 (by decide) (fun h9 => ?_) (fun h9 => ?_)
  · refine q_aload_n dX9_task_22 rfl ?_
    refine q_getR 0 9 3 4 (is_0 n) (by decide) rfl rfl (by decide) f_X9_34 rfl dX9_task_23 ?_
    refine q_calli [] o_X6_add rfl k_X9_58 rfl (is_4 n) (by decide) rfl dX9_task_26 (Nat.le_of_ble_eq_true rfl) (by omega) (by decide) (by omega) (Or.inl rfl) (c_tadd l n (d - 1) I L) (fun _ _ _ h => h.elim) (fun r1 I1 L1 hq => ?_)
    obtain ⟨e1, e2, e3⟩ := hq
    cases e1
    subst e2
    cases e3.symm
    rw [i32_pm, e4]
    exact q_iret dX9_task_29 rfl (by omega) (hN_0 (if_pos h9) (CX_task h (nb_ltN h.2.1.2.2.1.1 (by decide) h9)))
  · exact q_throw hl x_ISE rfl (List.mem_of_getElem? (i := 0) rfl) dX9_task_12 dX9_task_15 dX9_task_16 dX9_task_18 dX9_task_21 (by omega) (Nat.le_of_ble_eq_true rfl) (by omega) (hX_1 (if_neg h9) h)
set_option maxHeartbeats 8000000 in
set_option maxRecDepth 100000 in
theorem h_order {S J : MI} {T M : ML} {w : Nat} (hl : l.stackTraces = false) (t k a b : Int32) (hn : n < 2 ^ 31) (h : CX n S T w 0 0 J M I L) (hd : 170 ≤ d) : VM l n m_X9_order d 3 [.ref 0, .int t, .int k, .int a, .int b] I L (hN n J M (Horder S T t k a b)) (hX iae ise n J M (Horder S T t k a b)) := by
  refine VM_of _ [(0, .ref 0), (1, .int t), (2, .int k), (3, .int a), (4, .int b)] rfl (fun a => Nat.le_of_ble_eq_true rfl) rfl ?_
  have e4 : I 4 4 = S 30 3 := h.1.2.1.1
  have hb1 : ¬ (isT S t ∧ 0 ≤ k ∧ k ≤ 13) → Horder S T t k a b = (1, 0, S, T) := fun q => if_neg q
  refine q_aload_n dX9_order_0 rfl ?_
  refine q_iload_n dX9_order_1 rfl ?_
  refine q_callv [.int _] o_X9_needTask rfl k_X9_62 rfl (is_0 n) (by decide) rfl dX9_order_2 (Nat.le_of_ble_eq_true rfl) (by omega) (by decide) (by omega) rfl (c_needTask l n (d - 1) I L (t) hl (by omega)) (fun E9 I9 L9 hq9 => by obtain ⟨a9, b9, c9, d9⟩ := hq9; cases b9; cases c9.symm; cases d9.symm; exact (fun q => hX_1 (hb1 (fun z => q (by rw [e4]; exact z.1))) h) a9) (fun I9 L9 hq9 => ?_)
  obtain ⟨ht, -, e8, e9⟩ := hq9
  cases e8.symm
  cases e9.symm
  rw [e4] at ht
  have hnt := isT_nbt h.2.1 ht
  have h24 := h.2.1.2.2.1.1.2
  refine q_iload_n dX9_order_5 rfl ?_
  refine q_if_lt 15 dX9_order_6 (by decide) (fun h6 => ?_) (fun h6 => ?_)
  · exact q_throw hl x_IAE rfl (List.mem_of_getElem? (i := 1) rfl) dX9_order_15 dX9_order_18 dX9_order_19 dX9_order_21 dX9_order_24 (by omega) (Nat.le_of_ble_eq_true rfl) (by omega) (hX_1 (hb1 (fun z => absurd h6 (Int32.not_lt.mpr z.2.1))) h)
  · rw [Int32.not_lt] at h6
    refine q_iload_n dX9_order_9 rfl ?_
    refine q_bipush (13) dX9_order_10 (by decide) ?_
    refine q_icmp_le 25 dX9_order_12 (by decide) (fun h12 => ?_) (fun h12 => ?_)
    · have hz : Horder S T t k a b = if S 204 (N t) < 8 then (0, S 204 (N t) + 1, Ford S (N t) k a b, T) else (2, 0, S, T) := if_pos ⟨ht, h6, h12⟩
      have e5 : I 340 (N t) = S 204 (N t) := congrFun h.1.2.1.2.1 _
      have h8 := h.2.1.2.2.1.2 (N t)
      refine q_aload_n dX9_order_25 rfl ?_
      refine q_getR 0 9 3 4 (is_0 n) (by decide) rfl rfl (by decide) f_X9_34 rfl dX9_order_26 ?_
      refine q_getR 4 6 0 340 (is_4 n) (by decide) rfl rfl (by decide) f_X9_70 rfl dX9_order_29 ?_
      refine q_iload_n dX9_order_32 rfl ?_
      refine q_iald 340 (N t) hn (is_340 n) hnt.1 (by have := hnt.2; show _ < 24; omega) dX9_order_33 ?_
      refine q_bipush (8) dX9_order_34 (by decide) ?_
      rw [e5]
      refine q_icmp_lt 49 dX9_order_36 (by decide) (fun h36 => ?_) (fun h36 => ?_)
      · have hm := nb_ltN h8 (by decide) h36
        refine q_aload_n dX9_order_49 rfl ?_
        refine q_getR 0 9 3 4 (is_0 n) (by decide) rfl rfl (by decide) f_X9_34 rfl dX9_order_50 ?_
        refine q_iload_n dX9_order_53 rfl ?_
        refine q_iload_n dX9_order_54 rfl ?_
        refine q_iload_n dX9_order_55 rfl ?_
        refine q_iload dX9_order_56 rfl ?_
        rw [hnt.1]
        refine q_calli [.int _, .int _, .int _, .int _] o_X6_addOrder rfl k_X9_76 rfl (is_4 n) (by decide) rfl dX9_order_58 (Nat.le_of_ble_eq_true rfl) (by omega) (by decide) (by omega) (Or.inl rfl) (c_addOrder l n (d - 1) I L (N t) (N (S 204 (N t))) k a b hn (by have := hnt.2; omega) (by rw [e5]; exact h8.1) hm) (fun _ _ _ h => h.elim) (fun r1 I1 L1 hq => ?_)
        obtain ⟨e1, e2, e3⟩ := hq
        cases e1
        subst e2
        cases e3.symm
        rw [← hnt.1, ← nI_1, ← h8.1]
        exact q_iret dX9_order_61 rfl (by omega) (hN_0 (hz.trans (if_pos h36)) (CX_ord k a b h hm))
      · exact q_throw hl x_ISE rfl (List.mem_of_getElem? (i := 2) rfl) dX9_order_39 dX9_order_42 dX9_order_43 dX9_order_45 dX9_order_48 (by omega) (Nat.le_of_ble_eq_true rfl) (by omega) (hX_2 (hz.trans (if_neg h36)) h)
    · exact q_throw hl x_IAE rfl (List.mem_of_getElem? (i := 1) rfl) dX9_order_15 dX9_order_18 dX9_order_19 dX9_order_21 dX9_order_24 (by omega) (Nat.le_of_ble_eq_true rfl) (by omega) (hX_1 (hb1 (fun z => h12 z.2.2)) h)
set_option maxHeartbeats 8000000 in
set_option maxRecDepth 100000 in
theorem h_promise {S J : MI} {T M : ML} {w : Nat} (hl : l.stackTraces = false) (x : Int32) (hn : n < 2 ^ 31) (h : CX n S T w 0 0 J M I L) (hf1 : ∀ p, N (S 30 27) ≤ p → S 232 p = 0) (hd : 170 ≤ d) : VM l n m_X9_promise d 3 [.ref 0, .int x] I L (hN n J M (Hpromise n S T x)) (hX iae ise n J M (Hpromise n S T x)) := by
  refine VM_of _ [(0, .ref 0), (1, .int x)] rfl (fun a => Nat.le_of_ble_eq_true rfl) rfl ?_
  have e4 : I 5 6 = S 30 27 := h.1.2.2.1.1
  have hb1 : ¬ isL n x → Hpromise n S T x = (1, 0, S, T) := fun q => if_neg q
  refine q_aload_n dX9_promise_0 rfl ?_
  refine q_iload_n dX9_promise_1 rfl ?_
  refine q_callv [.int _] o_X9_needLoop rfl k_X9_80 rfl (is_0 n) (by decide) rfl dX9_promise_2 (Nat.le_of_ble_eq_true rfl) (by omega) (by decide) (by omega) rfl (c_needLoop l n (d - 1) I L (x) hl (by omega)) (fun E9 I9 L9 hq9 => by obtain ⟨a9, b9, c9, d9⟩ := hq9; cases b9; cases c9.symm; cases d9.symm; exact (fun q => hX_1 (hb1 q) h) a9) (fun I9 L9 hq9 => ?_)
  obtain ⟨ht, -, e8, e9⟩ := hq9
  cases e8.symm
  cases e9.symm
  have hnx := isL_nbt h.2.1.1.2 ht
  have hz : Hpromise n S T x = if S 30 27 < 32 then (0, S 30 27, Fpadd S x, T) else (2, 0, S, T) := if_pos ht
  refine q_aload_n dX9_promise_5 rfl ?_
  refine q_getR 0 9 4 5 (is_0 n) (by decide) rfl rfl (by decide) f_X9_39 rfl dX9_promise_6 ?_
  refine q_getI 5 2 6 (is_5 n) (by decide) rfl (by decide) f_X9_83 rfl dX9_promise_9 ?_
  refine q_bipush (32) dX9_promise_12 (by decide) ?_
  rw [e4]
  refine q_icmp_lt 27 dX9_promise_14 (by decide) (fun h14 => ?_) (fun h14 => ?_)
  · have hm := nb_ltN h.2.1.2.2.2.1.1 (by decide) h14
    refine q_aload_n dX9_promise_27 rfl ?_
    refine q_getR 0 9 4 5 (is_0 n) (by decide) rfl rfl (by decide) f_X9_39 rfl dX9_promise_28 ?_
    refine q_iload_n dX9_promise_31 rfl ?_
    refine q_calli [.int _] o_X2_add rfl k_X9_88 rfl (is_5 n) (by decide) rfl dX9_promise_32 (Nat.le_of_ble_eq_true rfl) (by omega) (by decide) (by omega) (Or.inl rfl) (c_padd l n (d - 1) I L (N (S 30 27)) x hn (e4.trans h.2.1.2.2.2.1.1.1) hm) (fun _ _ _ h => h.elim) (fun r1 I1 L1 hq => ?_)
    obtain ⟨e1, e2, e3⟩ := hq
    cases e1
    subst e2
    cases e3.symm
    have hX := CX_padd h hm hnx.2 hf1
    rw [← hnx.1] at hX
    rw [← h.2.1.2.2.2.1.1.1]
    exact q_iret dX9_promise_35 rfl (by omega) (hN_0 (hz.trans (if_pos h14)) hX)
  · exact q_throw hl x_ISE rfl (List.mem_of_getElem? (i := 3) rfl) dX9_promise_17 dX9_promise_20 dX9_promise_21 dX9_promise_23 dX9_promise_26 (by omega) (Nat.le_of_ble_eq_true rfl) (by omega) (hX_2 (hz.trans (if_neg h14)) h)
set_option maxHeartbeats 8000000 in
set_option maxRecDepth 100000 in
theorem h_channels {S J : MI} {T M : ML} {w : Nat} (hl : l.stackTraces = false) (x z : Int32) (hn : n < 2 ^ 31) (h : CX n S T w 0 0 J M I L) (hf1 : ∀ c, N (S 30 34) ≤ c → S 236 c = 0) (hd : 170 ≤ d) : VM l n m_X9_channels d 3 [.ref 0, .int x, .int z] I L (hN n J M (Hchannels n S T x z)) (hX iae ise n J M (Hchannels n S T x z)) := by
  refine VM_of _ [(0, .ref 0), (1, .int x), (2, .int z)] rfl (fun a => Nat.le_of_ble_eq_true rfl) rfl ?_
  have e4 : I 6 5 = S 30 34 := h.1.2.2.2.1.1
  have hb1 : ¬ (isL n x ∧ isL n z) → Hchannels n S T x z = (1, 0, S, T) := fun q => if_neg q
  refine q_aload_n dX9_channels_0 rfl ?_
  refine q_iload_n dX9_channels_1 rfl ?_
  refine q_callv [.int _] o_X9_needLoop rfl k_X9_80 rfl (is_0 n) (by decide) rfl dX9_channels_2 (Nat.le_of_ble_eq_true rfl) (by omega) (by decide) (by omega) rfl (c_needLoop l n (d - 1) I L (x) hl (by omega)) (fun E9 I9 L9 hq9 => by obtain ⟨a9, b9, c9, d9⟩ := hq9; cases b9; cases c9.symm; cases d9.symm; exact (fun q => hX_1 (hb1 (fun r => q r.1)) h) a9) (fun I9 L9 hq9 => ?_)
  obtain ⟨ht, -, e8, e9⟩ := hq9
  cases e8.symm
  cases e9.symm
  refine q_aload_n dX9_channels_5 rfl ?_
  refine q_iload_n dX9_channels_6 rfl ?_
  refine q_callv [.int _] o_X9_needLoop rfl k_X9_80 rfl (is_0 n) (by decide) rfl dX9_channels_7 (Nat.le_of_ble_eq_true rfl) (by omega) (by decide) (by omega) rfl (c_needLoop l n (d - 1) I L (z) hl (by omega)) (fun E9 I9 L9 hq9 => by obtain ⟨a9, b9, c9, d9⟩ := hq9; cases b9; cases c9.symm; cases d9.symm; exact (fun q => hX_1 (hb1 (fun r => q r.2)) h) a9) (fun I9 L9 hq9 => ?_)
  obtain ⟨ht2, -, e8, e9⟩ := hq9
  cases e8.symm
  cases e9.symm
  have hnx := isL_nbt h.2.1.1.2 ht
  have hnz := isL_nbt h.2.1.1.2 ht2
  have hz : Hchannels n S T x z = if S 30 34 < 16 then (0, S 30 34, Fpair S x z, T) else (2, 0, S, T) := if_pos ⟨ht, ht2⟩
  refine q_aload_n dX9_channels_10 rfl ?_
  refine q_getR 0 9 5 6 (is_0 n) (by decide) rfl rfl (by decide) f_X9_44 rfl dX9_channels_11 ?_
  refine q_getI 6 0 5 (is_6 n) (by decide) rfl (by decide) f_X9_91 rfl dX9_channels_14 ?_
  refine q_bipush (16) dX9_channels_17 (by decide) ?_
  rw [e4]
  refine q_icmp_lt 32 dX9_channels_19 (by decide) (fun h19 => ?_) (fun h19 => ?_)
  · have hm := nb_ltN h.2.1.2.2.2.2.1.1 (by decide) h19
    have hev := h.2.1.2.2.2.2.1.2.1
    refine q_aload_n dX9_channels_32 rfl ?_
    refine q_getR 0 9 5 6 (is_0 n) (by decide) rfl rfl (by decide) f_X9_44 rfl dX9_channels_33 ?_
    refine q_iload_n dX9_channels_36 rfl ?_
    refine q_iload_n dX9_channels_37 rfl ?_
    refine q_calli [.int _, .int _] o_X0_addPair rfl k_X9_96 rfl (is_6 n) (by decide) rfl dX9_channels_38 (Nat.le_of_ble_eq_true rfl) (by omega) (by decide) (by omega) (Or.inl rfl) (c_addPair l n (d - 1) I L (N (S 30 34)) x z hn (e4.trans h.2.1.2.2.2.2.1.1.1) (by omega)) (fun _ _ _ h => h.elim) (fun r1 I1 L1 hq => ?_)
    obtain ⟨e1, e2, e3⟩ := hq
    cases e1
    subst e2
    cases e3.symm
    have hX := CX_pair h hm hnx.2 hnz.2 hf1
    rw [← hnx.1, ← hnz.1] at hX
    rw [← h.2.1.2.2.2.2.1.1.1]
    exact q_iret dX9_channels_41 rfl (by omega) (hN_0 (hz.trans (if_pos h19)) hX)
  · exact q_throw hl x_ISE rfl (List.mem_of_getElem? (i := 4) rfl) dX9_channels_22 dX9_channels_25 dX9_channels_26 dX9_channels_28 dX9_channels_31 (by omega) (Nat.le_of_ble_eq_true rfl) (by omega) (hX_2 (hz.trans (if_neg h19)) h)
set_option maxHeartbeats 8000000 in
set_option maxRecDepth 100000 in
theorem h_handler {S J : MI} {T M : ML} {w : Nat} (hl : l.stackTraces = false) (c k t p : Int32) (hn : n < 2 ^ 31) (h : CX n S T w 0 0 J M I L) (hd : 170 ≤ d) : VM l n m_X9_handler d 3 [.ref 0, .int c, .int k, .int t, .int p] I L (hN n J M (Hhandler S T c k t p)) (hX iae ise n J M (Hhandler S T c k t p)) := by
  refine VM_of _ [(0, .ref 0), (1, .int c), (2, .int k), (3, .int t), (4, .int p)] rfl (fun a => Nat.le_of_ble_eq_true rfl) rfl ?_
  have e4 : I 6 5 = S 30 34 := h.1.2.2.2.1.1
  have e6 : I 6 6 = S 30 40 := h.1.2.2.2.1.2.1
  have ek : I 4 4 = S 30 3 := h.1.2.1.1
  refine q_aload_n dX9_handler_0 rfl ?_
  refine q_iload_n dX9_handler_1 rfl ?_
  refine q_callv [.int _] o_X9_needChannel rfl k_X9_100 rfl (is_0 n) (by decide) rfl dX9_handler_2 (Nat.le_of_ble_eq_true rfl) (by omega) (by decide) (by omega) rfl (c_needChannel l n (d - 1) I L (c) hl (by omega)) (fun E9 I9 L9 hq9 => by obtain ⟨a9, b9, c9, d9⟩ := hq9; cases b9; cases c9.symm; cases d9.symm; exact (fun q => hX_1 (if_neg (fun r => q (by rw [e4]; exact r))) h) a9) (fun I9 L9 hq9 => ?_)
  obtain ⟨ht, -, e8, e9⟩ := hq9
  cases e8.symm
  cases e9.symm
  rw [e4] at ht
  have hnc := isC_nbt h.2.1 ht
  have h16 := h.2.1.2.2.2.2.1.1.2
  have hc2 := hnc.2
  obtain ⟨-, h6, -⟩ := h.2.1.2.2.2.2.1.2.2 (N c) hc2
  have e5 : I 361 (N c) = S 236 (N c) := congrFun h.1.2.2.2.1.2.2.2.1 _
  have hz0 : Hhandler S T c k t p = if p = -1 then (if (0 ≤ k ∧ k ≤ 6) ∧ (k = 4 → isT S t) then (if S 236 (N c) < 6 then (0, S 30 40, Fhadd S (N c) k t, T) else (2, 0, S, T)) else (1, 0, S, T)) else (if 0 ≤ p ∧ p < S 236 (N c) then (0, S 239 (6 * N c + N p), Fhrem S (N c) (N p), T) else (1, 0, S, T)) := if_pos ht
  refine q_iload dX9_handler_5 rfl ?_
  refine q_iconst (-1) dX9_handler_7 (by decide) ?_
  refine q_icmp_eq 51 dX9_handler_8 (by decide) (fun h8 => ?_) (fun h8 => ?_)
  · rw [if_pos h8] at hz0
    have hbad : ¬ ((0 ≤ k ∧ k ≤ 6) ∧ (k = 4 → isT S t)) → Hhandler S T c k t p = (1, 0, S, T) := fun q => hz0.trans (if_neg q)
    refine q_iload_n dX9_handler_51 rfl ?_
    refine q_if_lt 61 dX9_handler_52 (by decide) (fun h52 => ?_) (fun h52 => ?_)
    · exact q_throw hl x_IAE rfl (List.mem_of_getElem? (i := 6) rfl) dX9_handler_61 dX9_handler_64 dX9_handler_65 dX9_handler_67 dX9_handler_70 (by omega) (Nat.le_of_ble_eq_true rfl) (by omega) (hX_1 (hbad (fun z => absurd h52 (Int32.not_lt.mpr z.1.1))) h)
    · rw [Int32.not_lt] at h52
      refine q_iload_n dX9_handler_55 rfl ?_
      refine q_bipush (6) dX9_handler_56 (by decide) ?_
      refine q_icmp_le 71 dX9_handler_58 (by decide) (fun h58 => ?_) (fun h58 => ?_)
      · refine q_iload_n dX9_handler_71 rfl ?_
        refine q_iconst (4) dX9_handler_72 (by decide) ?_
        have key : (k = 4 → isT S t) → VP l n m_X9_handler d 3 (hN n J M (Hhandler S T c k t p)) (hX iae ise n J M (Hhandler S T c k t p)) 2 81 [(0, .ref 0), (1, .int c), (2, .int k), (3, .int t), (4, .int p)] [] I L := by
          intro hkt
          rw [if_pos (show (0 ≤ k ∧ k ≤ 6) ∧ (k = 4 → isT S t) from ⟨⟨h52, h58⟩, hkt⟩)] at hz0
          refine q_aload_n dX9_handler_81 rfl ?_
          refine q_getR 0 9 5 6 (is_0 n) (by decide) rfl rfl (by decide) f_X9_44 rfl dX9_handler_82 ?_
          refine q_getR 6 0 1 361 (is_6 n) (by decide) rfl rfl (by decide) f_X9_103 rfl dX9_handler_85 ?_
          refine q_iload_n dX9_handler_88 rfl ?_
          refine q_iald 361 (N c) hn (is_361 n) hnc.1 (by show _ < 16; omega) dX9_handler_89 ?_
          refine q_bipush (6) dX9_handler_90 (by decide) ?_
          rw [e5]
          refine q_icmp_lt 105 dX9_handler_92 (by decide) (fun h92 => ?_) (fun h92 => ?_)
          · have hm := nb_ltN h6 (by decide) h92
            refine q_aload_n dX9_handler_105 rfl ?_
            refine q_getR 0 9 5 6 (is_0 n) (by decide) rfl rfl (by decide) f_X9_44 rfl dX9_handler_106 ?_
            refine q_iload_n dX9_handler_109 rfl ?_
            refine q_iload_n dX9_handler_110 rfl ?_
            refine q_iload_n dX9_handler_111 rfl ?_
            rw [hnc.1]
            refine q_calli [.int _, .int _, .int _] o_X0_addHandler rfl k_X9_113 rfl (is_6 n) (by decide) rfl dX9_handler_112 (Nat.le_of_ble_eq_true rfl) (by omega) (by decide) (by omega) (Or.inl rfl) (c_addHandler l n (d - 1) I L (N c) (N (S 236 (N c))) k t hn (by omega) (e5.trans h6.1) hm) (fun _ _ _ h => h.elim) (fun r1 I1 L1 hq => ?_)
            obtain ⟨e1, e2, e3⟩ := hq
            cases e1
            subst e2
            cases e3.symm
            rw [← hnc.1, e6]
            exact q_iret dX9_handler_115 rfl (by omega) (hN_0 (hz0.trans (if_pos h92)) (CX_hadd k t h hc2 hm (fun q => isT_nbt h.2.1 (hkt q))))
          · exact q_throw hl x_ISE rfl (List.mem_of_getElem? (i := 7) rfl) dX9_handler_95 dX9_handler_98 dX9_handler_99 dX9_handler_101 dX9_handler_104 (by omega) (Nat.le_of_ble_eq_true rfl) (by omega) (hX_2 (hz0.trans (if_neg h92)) h)
        refine q_icmp_ne 81 dX9_handler_73 (by decide) (fun h73 => ?_) (fun h73 => ?_)
        · exact q_wk (key (fun q => absurd q h73)) (by omega)
        · refine q_aload_n dX9_handler_76 rfl ?_
          refine q_iload_n dX9_handler_77 rfl ?_
          refine q_callv [.int _] o_X9_needTask rfl k_X9_62 rfl (is_0 n) (by decide) rfl dX9_handler_78 (Nat.le_of_ble_eq_true rfl) (by omega) (by decide) (by omega) rfl (c_needTask l n (d - 1) I L (t) hl (by omega)) (fun E9 I9 L9 hq9 => by obtain ⟨a9, b9, c9, d9⟩ := hq9; cases b9; cases c9.symm; cases d9.symm; exact (fun q => hX_1 (hbad (fun z => q (by rw [ek]; exact z.2 h73))) h) a9) (fun I9 L9 hq9 => ?_)
          obtain ⟨ht3, -, e8, e9⟩ := hq9
          cases e8.symm
          cases e9.symm
          exact key (fun _ => by show 0 ≤ t ∧ t < S 30 3; rw [← ek]; exact ht3)
      · exact q_throw hl x_IAE rfl (List.mem_of_getElem? (i := 6) rfl) dX9_handler_61 dX9_handler_64 dX9_handler_65 dX9_handler_67 dX9_handler_70 (by omega) (Nat.le_of_ble_eq_true rfl) (by omega) (hX_1 (hbad (fun z => h58 z.1.2)) h)
  · rw [if_neg h8] at hz0
    have hbad : ¬ (0 ≤ p ∧ p < S 236 (N c)) → Hhandler S T c k t p = (1, 0, S, T) := fun q => hz0.trans (if_neg q)
    refine q_iload dX9_handler_11 rfl ?_
    refine q_if_lt 30 dX9_handler_13 (by decide) (fun h13 => ?_) (fun h13 => ?_)
    · exact q_throw hl x_IAE rfl (List.mem_of_getElem? (i := 5) rfl) dX9_handler_30 dX9_handler_33 dX9_handler_34 dX9_handler_36 dX9_handler_39 (by omega) (Nat.le_of_ble_eq_true rfl) (by omega) (hX_1 (hbad (fun z => absurd h13 (Int32.not_lt.mpr z.1))) h)
    · rw [Int32.not_lt] at h13
      refine q_iload dX9_handler_16 rfl ?_
      refine q_aload_n dX9_handler_18 rfl ?_
      refine q_getR 0 9 5 6 (is_0 n) (by decide) rfl rfl (by decide) f_X9_44 rfl dX9_handler_19 ?_
      refine q_getR 6 0 1 361 (is_6 n) (by decide) rfl rfl (by decide) f_X9_103 rfl dX9_handler_22 ?_
      refine q_iload_n dX9_handler_25 rfl ?_
      refine q_iald 361 (N c) hn (is_361 n) hnc.1 (by show _ < 16; omega) dX9_handler_26 ?_
      rw [e5]
      refine q_icmp_lt 40 dX9_handler_27 (by decide) (fun h27 => ?_) (fun h27 => ?_)
      · have hnp := is_nbt h6 (by decide) h13 h27
        refine q_aload_n dX9_handler_40 rfl ?_
        refine q_getR 0 9 5 6 (is_0 n) (by decide) rfl rfl (by decide) f_X9_44 rfl dX9_handler_41 ?_
        refine q_iload_n dX9_handler_44 rfl ?_
        refine q_iload dX9_handler_45 rfl ?_
        rw [hnc.1, hnp.1]
        refine q_calli [.int _, .int _] o_X0_removeHandler rfl k_X9_106 rfl (is_6 n) (by decide) rfl dX9_handler_47 (Nat.le_of_ble_eq_true rfl) (by omega) (by decide) (by omega) (Or.inl rfl) (c_removeHandler l n (d - 1) I L (N c) (N p) hn h hc2 hnp.2 (by omega)) (fun _ _ _ h => h.elim) (fun r1 I1 L1 hq => ?_)
        obtain ⟨e1, hX⟩ := hq
        cases e1
        rw [← hnc.1, ← hnp.1]
        exact q_iret dX9_handler_50 rfl (by omega) (hN_0 (hz0.trans (if_pos ⟨h13, h27⟩)) hX)
      · exact q_throw hl x_IAE rfl (List.mem_of_getElem? (i := 5) rfl) dX9_handler_30 dX9_handler_33 dX9_handler_34 dX9_handler_36 dX9_handler_39 (by omega) (Nat.le_of_ble_eq_true rfl) (by omega) (hX_1 (hbad (fun z => h27 z.2)) h)
set_option maxHeartbeats 8000000 in
set_option maxRecDepth 100000 in
theorem h_execute {S J : MI} {T M : ML} {w : Nat} (hl : l.stackTraces = false) (t x : Int32) (hn : n < 2 ^ 31) (h : CX n S T w 0 0 J M I L) (hb : tr S + 1 < 2 ^ 31) (hd : 170 ≤ d) : VM l n m_X9_execute d 3 [.ref 0, .int t, .int x] I L (hN n J M (Hexecute n S T t x)) (hX iae ise n J M (Hexecute n S T t x)) := by
  refine VM_of _ [(0, .ref 0), (1, .int t), (2, .int x)] rfl (fun a => Nat.le_of_ble_eq_true rfl) rfl ?_
  have ek : I 4 4 = S 30 3 := h.1.2.1.1
  have hb1 : ¬ (isT S t ∧ (x = -2 ∨ isL n x)) → Hexecute n S T t x = (1, 0, S, T) := fun q => if_neg q
  refine q_aload_n dX9_execute_0 rfl ?_
  refine q_iload_n dX9_execute_1 rfl ?_
  refine q_callv [.int _] o_X9_needTask rfl k_X9_62 rfl (is_0 n) (by decide) rfl dX9_execute_2 (Nat.le_of_ble_eq_true rfl) (by omega) (by decide) (by omega) rfl (c_needTask l n (d - 1) I L (t) hl (by omega)) (fun E9 I9 L9 hq9 => by obtain ⟨a9, b9, c9, d9⟩ := hq9; cases b9; cases c9.symm; cases d9.symm; exact (fun q => hX_1 (hb1 (fun r => q (by rw [ek]; exact r.1))) h) a9) (fun I9 L9 hq9 => ?_)
  obtain ⟨ht, -, e8, e9⟩ := hq9
  cases e8.symm
  cases e9.symm
  rw [ek] at ht
  have hnt := isT_nbt h.2.1 ht
  have key : (x = -2 ∨ isL n x) → ∀ (kk : Nat) (I1 : MI) (L1 : ML), kk ≤ 2 → CX n (FtgtS S x) T w 0 0 J M I1 L1 → VP l n m_X9_execute d 3 (hN n J M (Hexecute n S T t x)) (hX iae ise n J M (Hexecute n S T t x)) kk 33 [(0, .ref 0), (1, .int t), (2, .int x)] [.int (Hon n S x)] I1 L1 := by
    intro hx kk I1 L1 hkk h1
    obtain ⟨z1, z2⟩ := Ftgt_ok' h.2.1 hx
    have hz : Hexecute n S T t x = if rej (FtgtS S x) (N (Hon n S x)) then (2, 0, Fput (FtgtS S x) (-1) (N (Hon n S x)) 0 t 0 t, T) else (0, Hon n S x, Fput (FtgtS S x) (-1) (N (Hon n S x)) 0 t 0 t, T) := if_pos ⟨ht, hx⟩
    have e3 : FtgtS S x 30 3 = S 30 3 := by unfold FtgtS FchS; split <;> simp [rdI]
    have etr : tr (FtgtS S x) = tr S := by unfold FtgtS FchS tr; split <;> simp [rdI]
    refine q_istore_n [(3, _), (0, _), (1, _), (2, _)] dX9_execute_33 (by decide) rfl ?_
    refine q_aload_n dX9_execute_34 rfl ?_
    refine q_getR 0 9 1 2 (is_0 n) (by decide) rfl rfl (by decide) f_X9_22 rfl dX9_execute_35 ?_
    refine q_iconst (-1) dX9_execute_38 (by decide) ?_
    refine q_iload_n dX9_execute_39 rfl ?_
    refine q_iconst (0) dX9_execute_40 (by decide) ?_
    refine q_iload_n dX9_execute_41 rfl ?_
    refine q_iconst (0) dX9_execute_42 (by decide) ?_
    rw [z1]
    refine q_calli [.int _, .int _, .int _, .int _, .int _] o_X5_enqueue rfl k_X9_129 rfl (is_2 n) (by decide) rfl dX9_execute_43 (Nat.le_of_ble_eq_true rfl) (by omega) (by decide) (by omega) (Or.inr rfl) (c_enqueue l n (d - 1) I1 L1 (N (Hon n S x)) (-1) 0 t 0 hn h1 z2 (Or.inr ⟨Or.inl rfl, by rw [e3]; exact hnt⟩) (by rw [etr]; exact hb) (by omega)) (fun _ _ _ h => h.elim) (fun r2 I2 L2 hq => ?_)
    obtain ⟨e1, hX⟩ := hq
    cases e1
    rw [← z1]
    rw [if_neg (by decide)] at hX
    refine q_if_ne 59 dX9_execute_46 (by decide) (fun h46 => ?_) (fun h46 => ?_)
    · rw [ne_eq, bI_z, Decidable.not_not] at h46
      refine q_iload_n dX9_execute_59 rfl ?_
      exact q_iret dX9_execute_60 rfl (by omega) (hN_0 (hz.trans (if_neg h46)) hX)
    · rw [bI_z, Decidable.not_not] at h46
      exact q_throw hl x_ISE rfl (List.mem_of_getElem? (i := 9) rfl) dX9_execute_49 dX9_execute_52 dX9_execute_53 dX9_execute_55 dX9_execute_58 (by omega) (Nat.le_of_ble_eq_true rfl) (by omega) (hX_2 (hz.trans (if_pos h46)) hX)
  refine q_iload_n dX9_execute_5 rfl ?_
  refine q_bipush (-2) dX9_execute_6 (by decide) ?_
  refine q_icmp_eq 16 dX9_execute_8 (by decide) (fun h8 => ?_) (fun h8 => ?_)
  · refine q_iload_n dX9_execute_16 rfl ?_
    refine q_bipush (-2) dX9_execute_17 (by decide) ?_
    refine q_icmp_ne 32 dX9_execute_19 (by decide) (fun h19 => absurd h8 h19) (fun h19 => ?_)
    refine q_aload_n dX9_execute_22 rfl ?_
    refine q_getR 0 9 1 2 (is_0 n) (by decide) rfl rfl (by decide) f_X9_22 rfl dX9_execute_23 ?_
    refine q_calli [] o_X5_choose rfl k_X9_124 rfl (is_2 n) (by decide) rfl dX9_execute_26 (Nat.le_of_ble_eq_true rfl) (by omega) (by decide) (by omega) (Or.inl rfl) (c_choose l n (d - 1) I L h (by omega)) (fun _ _ _ h => h.elim) (fun r1 I1 L1 hq => ?_)
    obtain ⟨e1, hX⟩ := hq
    cases e1
    refine q_goto 33 dX9_execute_29 (by decide) ?_
    have hk := key (Or.inl h8) 1 I1 L1 (by omega) (by rw [FtgtS, if_pos h8]; exact hX)
    rw [Hon, if_pos h8] at hk
    exact hk
  · refine q_aload_n dX9_execute_11 rfl ?_
    refine q_iload_n dX9_execute_12 rfl ?_
    refine q_callv [.int _] o_X9_needLoop rfl k_X9_80 rfl (is_0 n) (by decide) rfl dX9_execute_13 (Nat.le_of_ble_eq_true rfl) (by omega) (by decide) (by omega) rfl (c_needLoop l n (d - 1) I L (x) hl (by omega)) (fun E9 I9 L9 hq9 => by obtain ⟨a9, b9, c9, d9⟩ := hq9; cases b9; cases c9.symm; cases d9.symm; exact (fun q => hX_1 (hb1 (fun r => r.2.elim h8 q)) h) a9) (fun I9 L9 hq9 => ?_)
    obtain ⟨ht2, -, e8, e9⟩ := hq9
    cases e8.symm
    cases e9.symm
    refine q_iload_n dX9_execute_16 rfl ?_
    refine q_bipush (-2) dX9_execute_17 (by decide) ?_
    refine q_icmp_ne 32 dX9_execute_19 (by decide) (fun h19 => ?_) (fun h19 => absurd h19 h8)
    refine q_iload_n dX9_execute_32 rfl ?_
    have hk := key (Or.inr ht2) 2 I L (by omega) (by rw [FtgtS, if_neg h8]; exact h)
    rw [Hon, if_neg h8] at hk
    exact hk
set_option maxHeartbeats 8000000 in
set_option maxRecDepth 100000 in
theorem h_timer {S J : MI} {T M : ML} {w : Nat} (hl : l.stackTraces = false) (t dl x : Int32) (hn : n < 2 ^ 31) (h : CX n S T w 0 0 J M I L) (hb : tr S + 2 < 2 ^ 31) (hd : 170 ≤ d) : VM l n m_X9_timer d 3 [.ref 0, .int t, .int dl, .int x] I L (hN n J M (Htimer n S T t dl x)) (hX iae ise n J M (Htimer n S T t dl x)) := by
  refine VM_of _ [(0, .ref 0), (1, .int t), (2, .int dl), (3, .int x)] rfl (fun a => Nat.le_of_ble_eq_true rfl) rfl ?_
  have ek : I 4 4 = S 30 3 := h.1.2.1.1
  have hb1 : ¬ (isT S t ∧ 0 ≤ dl ∧ isL n x) → Htimer n S T t dl x = (1, 0, S, T) := fun q => if_neg q
  refine q_aload_n dX9_timer_0 rfl ?_
  refine q_iload_n dX9_timer_1 rfl ?_
  refine q_callv [.int _] o_X9_needTask rfl k_X9_62 rfl (is_0 n) (by decide) rfl dX9_timer_2 (Nat.le_of_ble_eq_true rfl) (by omega) (by decide) (by omega) rfl (c_needTask l n (d - 1) I L (t) hl (by omega)) (fun E9 I9 L9 hq9 => by obtain ⟨a9, b9, c9, d9⟩ := hq9; cases b9; cases c9.symm; cases d9.symm; exact (fun q => hX_1 (hb1 (fun r => q (by rw [ek]; exact r.1))) h) a9) (fun I9 L9 hq9 => ?_)
  obtain ⟨ht, -, e8, e9⟩ := hq9
  cases e8.symm
  cases e9.symm
  rw [ek] at ht
  refine q_aload_n dX9_timer_5 rfl ?_
  refine q_iload_n dX9_timer_6 rfl ?_
  refine q_callv [.int _] o_X9_needLoop rfl k_X9_80 rfl (is_0 n) (by decide) rfl dX9_timer_7 (Nat.le_of_ble_eq_true rfl) (by omega) (by decide) (by omega) rfl (c_needLoop l n (d - 1) I L (x) hl (by omega)) (fun E9 I9 L9 hq9 => by obtain ⟨a9, b9, c9, d9⟩ := hq9; cases b9; cases c9.symm; cases d9.symm; exact (fun q => hX_1 (hb1 (fun r => q r.2.2)) h) a9) (fun I9 L9 hq9 => ?_)
  obtain ⟨ht2, -, e8, e9⟩ := hq9
  cases e8.symm
  cases e9.symm
  have hnt := isT_nbt h.2.1 ht
  have hnx := isL_nbt h.2.1.1.2 ht2
  refine q_iload_n dX9_timer_10 rfl ?_
  refine q_if_ge 24 dX9_timer_11 (by decide) (fun h11 => ?_) (fun h11 => ?_)
  · have hz : Htimer n S T t dl x = if rejT S (N x) then (2, 0, Fsch S (-1) (N x) t, TSch S T (N x) dl.toInt64) else (0, S 30 23, Fsch S (-1) (N x) t, TSch S T (N x) dl.toInt64) := if_pos ⟨ht, h11, ht2⟩
    refine q_aload_n dX9_timer_24 rfl ?_
    refine q_getR 0 9 1 2 (is_0 n) (by decide) rfl rfl (by decide) f_X9_22 rfl dX9_timer_25 ?_
    refine q_iconst (-1) dX9_timer_28 (by decide) ?_
    refine q_iload_n dX9_timer_29 rfl ?_
    refine q_iload_n dX9_timer_30 rfl ?_
    refine q_iload_n dX9_timer_31 rfl ?_
    rw [hnx.1]
    refine q_calli [.int _, .int _, .int _, .int _] o_X5_schedule rfl k_X9_137 rfl (is_2 n) (by decide) rfl dX9_timer_32 (Nat.le_of_ble_eq_true rfl) (by omega) (by decide) (by omega) (Or.inl rfl) (c_schedule l n (d - 1) I L (N x) (-1) t dl hn h hnx.2 hnt hb (by omega)) (fun _ _ _ h => h.elim) (fun r2 I2 L2 hq => ?_)
    obtain ⟨e1, hX⟩ := hq
    cases e1
    rw [← hnx.1]
    refine q_istore [(4, _), (0, _), (1, _), (2, _), (3, _)] dX9_timer_35 (by decide) rfl ?_
    refine q_iload dX9_timer_37 rfl ?_
    refine q_iconst (-1) dX9_timer_39 (by decide) ?_
    by_cases hr : rejT S (N x)
    · rw [if_pos hr] at hz
      rw [if_pos hr]
      refine q_icmp_ne 53 dX9_timer_40 (by decide) (fun q => absurd rfl q) (fun _ => ?_)
      exact q_throw hl x_ISE rfl (List.mem_of_getElem? (i := 9) rfl) dX9_timer_43 dX9_timer_46 dX9_timer_47 dX9_timer_49 dX9_timer_52 (by omega) (Nat.le_of_ble_eq_true rfl) (by omega) (hX_2 hz hX)
    · rw [if_neg hr] at hz
      rw [if_neg hr]
      have hm := h.2.1.2.2.2.2.2.1.1
      refine q_icmp_ne 53 dX9_timer_40 (by decide) (fun _ => ?_) (fun q => absurd q.symm (by rw [hm.1]; exact nI_ne_m1 (by have := hm.2; omega)))
      refine q_iload dX9_timer_53 rfl ?_
      exact q_iret dX9_timer_55 rfl (by omega) (hN_0 hz hX)
  · exact q_throw hl x_IAE rfl (List.mem_of_getElem? (i := 10) rfl) dX9_timer_14 dX9_timer_17 dX9_timer_18 dX9_timer_20 dX9_timer_23 (by omega) (Nat.le_of_ble_eq_true rfl) (by omega) (hX_1 (hb1 (fun z => h11 z.2.1)) h)
set_option maxHeartbeats 8000000 in
set_option maxRecDepth 100000 in
theorem h_cancel {S J : MI} {T M : ML} {w : Nat} (hl : l.stackTraces = false) (t : Int32) (hn : n < 2 ^ 31) (h : CX n S T w 0 0 J M I L) (hd : 170 ≤ d) : VM l n m_X9_cancel d 3 [.ref 0, .int t] I L (hN n J M (Hcancel S T t)) (hX iae ise n J M (Hcancel S T t)) := by
  refine VM_of _ [(0, .ref 0), (1, .int t)] rfl (fun a => Nat.le_of_ble_eq_true rfl) rfl ?_
  refine q_aload_n dX9_cancel_0 rfl ?_
  refine q_getR 0 9 1 2 (is_0 n) (by decide) rfl rfl (by decide) f_X9_22 rfl dX9_cancel_1 ?_
  refine q_iload_n dX9_cancel_4 rfl ?_
  refine q_calli [.int _] o_X5_dropTimer rfl k_X9_140 rfl (is_2 n) (by decide) rfl dX9_cancel_5 (Nat.le_of_ble_eq_true rfl) (by omega) (by decide) (by omega) (Or.inr rfl) (c_dropTimer l n (d - 1) I L t hn h (by omega)) (fun _ _ _ h => h.elim) (fun r2 I2 L2 hq => ?_)
  obtain ⟨e1, hX⟩ := hq
  cases e1
  exact q_zret dX9_cancel_8 rfl (by omega) bI_nar (hN_0 rfl hX)
set_option maxHeartbeats 8000000 in
set_option maxRecDepth 100000 in
theorem h_complete {S J : MI} {T M : ML} {w : Nat} (hl : l.stackTraces = false) (p how v : Int32) (hn : n < 2 ^ 31) (h : CX n S T w 0 0 J M I L) (hb : tr S + 40200 < 2 ^ 31) (hd : 170 ≤ d) : VM l n m_X9_complete d 3 [.ref 0, .int p, .int how, .int v] I L (hN n J M (Hcomplete S T p how v)) (hX iae ise n J M (Hcomplete S T p how v)) := by
  refine VM_of _ [(0, .ref 0), (1, .int p), (2, .int how), (3, .int v)] rfl (fun a => Nat.le_of_ble_eq_true rfl) rfl ?_
  have e4 : I 5 6 = S 30 27 := h.1.2.2.1.1
  have hb1 : ¬ (isP S p ∧ 1 ≤ how ∧ how ≤ 4) → Hcomplete S T p how v = (1, 0, S, T) := fun q => if_neg q
  refine q_aload_n dX9_complete_0 rfl ?_
  refine q_iload_n dX9_complete_1 rfl ?_
  refine q_callv [.int _] o_X9_needPromise rfl k_X9_144 rfl (is_0 n) (by decide) rfl dX9_complete_2 (Nat.le_of_ble_eq_true rfl) (by omega) (by decide) (by omega) rfl (c_needPromise l n (d - 1) I L (p) hl (by omega)) (fun E9 I9 L9 hq9 => by obtain ⟨a9, b9, c9, d9⟩ := hq9; cases b9; cases c9.symm; cases d9.symm; exact (fun q => hX_1 (hb1 (fun r => q (by rw [e4]; exact r.1))) h) a9) (fun I9 L9 hq9 => ?_)
  obtain ⟨ht, -, e8, e9⟩ := hq9
  cases e8.symm
  cases e9.symm
  rw [e4] at ht
  have hnp := isP_nbt h.2.1 ht
  have hp2 := hnp.2
  have h32 := h.2.1.2.2.2.1.1.2
  refine q_iload_n dX9_complete_5 rfl ?_
  refine q_iconst (4) dX9_complete_6 (by decide) ?_
  refine q_icmp_ne 19 dX9_complete_7 (by decide) (fun h7 => ?_) (fun h7 => ?_)
  · refine q_iload_n dX9_complete_19 rfl ?_
    refine q_iconst (1) dX9_complete_20 (by decide) ?_
    refine q_icmp_lt 29 dX9_complete_21 (by decide) (fun h21 => ?_) (fun h21 => ?_)
    · exact q_throw hl x_IAE rfl (List.mem_of_getElem? (i := 11) rfl) dX9_complete_29 dX9_complete_32 dX9_complete_33 dX9_complete_35 dX9_complete_38 (by omega) (Nat.le_of_ble_eq_true rfl) (by omega) (hX_1 (hb1 (fun z => absurd h21 (Int32.not_lt.mpr z.2.1))) h)
    · refine q_iload_n dX9_complete_24 rfl ?_
      refine q_iconst (3) dX9_complete_25 (by decide) ?_
      refine q_icmp_le 39 dX9_complete_26 (by decide) (fun h26 => ?_) (fun h26 => ?_)
      · rw [Int32.not_lt] at h21
        have h4 : how ≤ 4 := Int32.le_trans h26 (by decide)
        have hz : Hcomplete S T p how v = (0, bI (¬ noFin S (N p) how), (Lfin idD (-1) 0 0 (N p) how v (S, T, 0)).1, (Lfin idD (-1) 0 0 (N p) how v (S, T, 0)).2.1) := (if_pos ⟨ht, h21, h4⟩).trans (if_neg h7)
        refine q_aload_n dX9_complete_39 rfl ?_
        refine q_getR 0 9 0 1 (is_0 n) (by decide) rfl rfl (by decide) f_X9_14 rfl dX9_complete_40 ?_
        refine q_iconst (-1) dX9_complete_43 (by decide) ?_
        refine q_iload_n dX9_complete_44 rfl ?_
        refine q_iload_n dX9_complete_45 rfl ?_
        refine q_iload_n dX9_complete_46 rfl ?_
        rw [hnp.1]
        refine q_calli [.int _, .int _, .int _, .int _] o_X4_settle rfl k_X9_152 rfl (is_1 n) (by decide) rfl dX9_complete_47 (Nat.le_of_ble_eq_true rfl) (by omega) (by decide) (by omega) (Or.inr rfl) (c_settle l n (d - 1) I L (g := 12) (D := idD) (th := -1) (fun q => absurd q no_host) (fun q => absurd q no_host) (N p) how v (fun q => by rw [q] at h21; exact absurd h21 (by decide)) hn h h.2.2.2.2 hp2 (by omega) (by omega) (by omega) (by simp only [Ph]; omega) (by omega)) (fun _ _ _ h => h.elim) (fun r2 I2 L2 hq => ?_)
        obtain ⟨e1, hX⟩ := hq
        cases e1
        rw [← hnp.1]
        obtain ⟨i1, i2⟩ := fin_id (-1) 0 0 (N p) how v S T w
        rw [i1, i2] at hX
        exact q_zret dX9_complete_50 rfl (by omega) bI_nar (hN_0 hz hX)
      · exact q_throw hl x_IAE rfl (List.mem_of_getElem? (i := 11) rfl) dX9_complete_29 dX9_complete_32 dX9_complete_33 dX9_complete_35 dX9_complete_38 (by omega) (Nat.le_of_ble_eq_true rfl) (by omega) (hX_1 (hb1 (fun z => h26 (by rcases Decidable.em (how ≤ 3) with q | q; exact q; exact absurd (le34 z.2.2 q) h7))) h)
  · have hz : Hcomplete S T p how v = (0, bI (S 229 (N p) = 0), upI S 231 (N p) 1, T) := (if_pos ⟨ht, by rw [h7]; decide, by rw [h7]; decide⟩).trans (if_pos h7)
    have e9 : I 351 (N p) = S 229 (N p) := congrFun h.1.2.2.1.2.2.1 _
    refine q_aload_n dX9_complete_10 rfl ?_
    refine q_getR 0 9 4 5 (is_0 n) (by decide) rfl rfl (by decide) f_X9_39 rfl dX9_complete_11 ?_
    refine q_iload_n dX9_complete_14 rfl ?_
    rw [hnp.1]
    refine q_calli [.int _] o_X2_pin rfl k_X9_147 rfl (is_5 n) (by decide) rfl dX9_complete_15 (Nat.le_of_ble_eq_true rfl) (by omega) (by decide) (by omega) (Or.inr rfl) (c_pin l n (d - 1) I L (N p) hn (by omega) (by omega)) (fun _ _ _ h => h.elim) (fun r2 I2 L2 hq => ?_)
    obtain ⟨e1, e2, e3⟩ := hq
    cases e1
    subst e2
    cases e3.symm
    rw [← hnp.1, e9]
    have hX := CX_pin (p := N p) h
    rw [e9] at hX
    exact q_zret dX9_complete_18 rfl (by omega) bI_nar (hN_0 hz hX)
set_option maxHeartbeats 8000000 in
set_option maxRecDepth 100000 in
theorem h_listen {S J : MI} {T M : ML} {w : Nat} (hl : l.stackTraces = false) (p t : Int32) (hn : n < 2 ^ 31) (h : CX n S T w 0 0 J M I L) (hb : tr S + 40200 < 2 ^ 31) (hd : 170 ≤ d) : VM l n m_X9_listen d 3 [.ref 0, .int p, .int t] I L (hV n J M (Hlisten S T p t)) (hX iae ise n J M (Hlisten S T p t)) := by
  refine VM_of _ [(0, .ref 0), (1, .int p), (2, .int t)] rfl (fun a => Nat.le_of_ble_eq_true rfl) rfl ?_
  have e4 : I 5 6 = S 30 27 := h.1.2.2.1.1
  have ek : I 4 4 = S 30 3 := h.1.2.1.1
  have hb1 : ¬ (isP S p ∧ isT S t ∧ (S 229 (N p) ≠ 0 ∨ S 232 (N p) < 6)) → Hlisten S T p t = (1, 0, S, T) := fun q => if_neg q
  refine q_aload_n dX9_listen_0 rfl ?_
  refine q_iload_n dX9_listen_1 rfl ?_
  refine q_callv [.int _] o_X9_needPromise rfl k_X9_144 rfl (is_0 n) (by decide) rfl dX9_listen_2 (Nat.le_of_ble_eq_true rfl) (by omega) (by decide) (by omega) rfl (c_needPromise l n (d - 1) I L (p) hl (by omega)) (fun E9 I9 L9 hq9 => by obtain ⟨a9, b9, c9, d9⟩ := hq9; cases b9; cases c9.symm; cases d9.symm; exact (fun q => hX_1 (hb1 (fun r => q (by rw [e4]; exact r.1))) h) a9) (fun I9 L9 hq9 => ?_)
  obtain ⟨ht, -, e8, e9⟩ := hq9
  cases e8.symm
  cases e9.symm
  rw [e4] at ht
  refine q_aload_n dX9_listen_5 rfl ?_
  refine q_iload_n dX9_listen_6 rfl ?_
  refine q_callv [.int _] o_X9_needTask rfl k_X9_62 rfl (is_0 n) (by decide) rfl dX9_listen_7 (Nat.le_of_ble_eq_true rfl) (by omega) (by decide) (by omega) rfl (c_needTask l n (d - 1) I L (t) hl (by omega)) (fun E9 I9 L9 hq9 => by obtain ⟨a9, b9, c9, d9⟩ := hq9; cases b9; cases c9.symm; cases d9.symm; exact (fun q => hX_1 (hb1 (fun r => q (by rw [ek]; exact r.2.1))) h) a9) (fun I9 L9 hq9 => ?_)
  obtain ⟨ht2, -, e8, e9⟩ := hq9
  cases e8.symm
  cases e9.symm
  rw [ek] at ht2
  have hnp := isP_nbt h.2.1 ht
  have hnt := isT_nbt h.2.1 ht2
  have hp2 := hnp.2
  have h32 := h.2.1.2.2.2.1.1.2
  have e9 : I 351 (N p) = S 229 (N p) := congrFun h.1.2.2.1.2.2.1 _
  have e8 : I 354 (N p) = S 232 (N p) := congrFun h.1.2.2.1.2.2.2.2.2.1 _
  refine q_aload_n dX9_listen_10 rfl ?_
  refine q_getR 0 9 4 5 (is_0 n) (by decide) rfl rfl (by decide) f_X9_39 rfl dX9_listen_11 ?_
  refine q_iload_n dX9_listen_14 rfl ?_
  rw [hnp.1]
  refine q_calli [.int _] o_X2_takesListener rfl k_X9_156 rfl (is_5 n) (by decide) rfl dX9_listen_15 (Nat.le_of_ble_eq_true rfl) (by omega) (by decide) (by omega) (Or.inr rfl) (c_takes l n (d - 1) I L (N p) hn (by omega) (by omega)) (fun _ _ _ h => h.elim) (fun r2 I2 L2 hq => ?_)
  obtain ⟨e1, e2, e3⟩ := hq
  cases e1
  cases e2.symm
  cases e3.symm
  rw [← hnp.1, e9, e8]
  refine q_if_ne 31 dX9_listen_18 (by decide) (fun h18 => ?_) (fun h18 => ?_)
  · rw [ne_eq, bI_z, Decidable.not_not] at h18
    refine q_aload_n dX9_listen_31 rfl ?_
    refine q_getR 0 9 0 1 (is_0 n) (by decide) rfl rfl (by decide) f_X9_14 rfl dX9_listen_32 ?_
    refine q_iconst (-1) dX9_listen_35 (by decide) ?_
    refine q_iload_n dX9_listen_36 rfl ?_
    refine q_iload_n dX9_listen_37 rfl ?_
    rw [hnp.1, hnt.1]
    refine q_callv [.int _, .int _, .int _] o_X4_addListener rfl k_X9_161 rfl (is_1 n) (by decide) rfl dX9_listen_38 (Nat.le_of_ble_eq_true rfl) (by omega) (by decide) (by omega) rfl (c_addListener l n (d - 1) I L (g := 12) (D := idD) (th := -1) (fun q => absurd q no_host) (fun q => absurd q no_host) (N p) (N t) hn h h.2.2.2.2 hp2 hnt.2 h18 (by omega) (by omega) (by omega) (by simp only [Ph]; omega) (by omega)) (fun _ _ _ h => h.elim) (fun I2 L2 hq => ?_)
    obtain ⟨-, hX⟩ := hq
    rw [← hnp.1, ← hnt.1]
    obtain ⟨i1, i2⟩ := lis_id (-1) 0 0 (N p) (N t) S T w
    rw [i1, i2] at hX
    exact q_vret dX9_listen_41 rfl (by omega) (hV_0 (if_pos ⟨ht, ht2, h18⟩) hX)
  · rw [bI_z] at h18
    exact q_throw hl x_IAE rfl (List.mem_of_getElem? (i := 12) rfl) dX9_listen_21 dX9_listen_24 dX9_listen_25 dX9_listen_27 dX9_listen_30 (by omega) (Nat.le_of_ble_eq_true rfl) (by omega) (hX_1 (hb1 (fun z => h18 z.2.2)) h)
set_option maxHeartbeats 8000000 in
set_option maxRecDepth 100000 in
theorem h_fire {S J : MI} {T M : ML} {w : Nat} (hl : l.stackTraces = false) (c m : Int32) (hn : n < 2 ^ 31) (h : CX n S T w 0 0 J M I L) (hb : tr S + 40200 < 2 ^ 31) (hd : 170 ≤ d) : VM l n m_X9_fire d 3 [.ref 0, .int c, .int m] I L (hV n J M (Hfire S T c m)) (hX iae ise n J M (Hfire S T c m)) := by
  refine VM_of _ [(0, .ref 0), (1, .int c), (2, .int m)] rfl (fun a => Nat.le_of_ble_eq_true rfl) rfl ?_
  have e4 : I 6 5 = S 30 34 := h.1.2.2.2.1.1
  refine q_aload_n dX9_fire_0 rfl ?_
  refine q_iload_n dX9_fire_1 rfl ?_
  refine q_callv [.int _] o_X9_needChannel rfl k_X9_100 rfl (is_0 n) (by decide) rfl dX9_fire_2 (Nat.le_of_ble_eq_true rfl) (by omega) (by decide) (by omega) rfl (c_needChannel l n (d - 1) I L (c) hl (by omega)) (fun E9 I9 L9 hq9 => by obtain ⟨a9, b9, c9, d9⟩ := hq9; cases b9; cases c9.symm; cases d9.symm; exact (fun q => hX_1 (if_neg (fun r => q (by rw [e4]; exact r))) h) a9) (fun I9 L9 hq9 => ?_)
  obtain ⟨ht, -, e8, e9⟩ := hq9
  cases e8.symm
  cases e9.symm
  rw [e4] at ht
  have hnc := isC_nbt h.2.1 ht
  obtain ⟨hl1, -, -⟩ := h.2.1.2.2.2.2.1.2.2 (N c) hnc.2
  have hne : ¬ (S 235 (N c) = -1 ∧ 0 < 4) := fun q => no_host (q.1 ▸ hl1)
  have hz : Hfire S T c m = if rej S (N (S 235 (N c))) then (2, 0, Fput S (-1) (N (S 235 (N c))) 2 c m (-1), T) else (0, 0, Fput S (-1) (N (S 235 (N c))) 2 c m (-1), T) := if_pos ht
  refine q_aload_n dX9_fire_5 rfl ?_
  refine q_getR 0 9 0 1 (is_0 n) (by decide) rfl rfl (by decide) f_X9_14 rfl dX9_fire_6 ?_
  refine q_iconst (-1) dX9_fire_9 (by decide) ?_
  refine q_iload_n dX9_fire_10 rfl ?_
  refine q_iload_n dX9_fire_11 rfl ?_
  rw [hnc.1]
  refine q_calli [.int _, .int _, .int _] o_X4_send rfl k_X9_165 rfl (is_1 n) (by decide) rfl dX9_fire_12 (Nat.le_of_ble_eq_true rfl) (by omega) (by decide) (by omega) (Or.inr rfl) (c_send l n (d - 1) I L (g := 12) (G := idG) (th := -1) (fun q => absurd q no_host) (N c) m hn h h.2.2.2.2 hnc.2 (by omega) (by omega) (by omega) (by simp only [Ph]; omega) (by omega)) (fun _ _ _ h => h.elim) (fun r2 I2 L2 hq => ?_)
  obtain ⟨e1, hX⟩ := hq
  cases e1
  have hX : CX n (Fput S (-1) (N (S 235 (N c))) 2 c m (-1)) T w 0 0 J M I2 L2 := by
    rw [Lsend, if_neg hne, ← hnc.1] at hX
    exact hX
  rw [← hnc.1, if_neg hne]
  refine q_if_ne 28 dX9_fire_15 (by decide) (fun h15 => ?_) (fun h15 => ?_)
  · rw [ne_eq, bI_z, Decidable.not_not] at h15
    exact q_vret dX9_fire_28 rfl (by omega) (hV_0 (hz.trans (if_neg h15)) hX)
  · rw [bI_z, Decidable.not_not] at h15
    exact q_throw hl x_ISE rfl (List.mem_of_getElem? (i := 9) rfl) dX9_fire_18 dX9_fire_21 dX9_fire_22 dX9_fire_24 dX9_fire_27 (by omega) (Nat.le_of_ble_eq_true rfl) (by omega) (hX_2 (hz.trans (if_pos h15)) hX)
set_option maxHeartbeats 8000000 in
set_option maxRecDepth 100000 in
theorem h_shutdown {S J : MI} {T M : ML} {w : Nat} (hl : l.stackTraces = false) (q t : Int32) (hn : n < 2 ^ 31) (h : CX n S T w 0 0 J M I L) (hb : tr S + 8 < 2 ^ 31) (hd : 170 ≤ d) : VM l n m_X9_shutdown d 3 [.ref 0, .int q, .int t] I L (hV n J M (Hshutdown n S T q t)) (hX iae ise n J M (Hshutdown n S T q t)) := by
  refine VM_of _ [(0, .ref 0), (1, .int q), (2, .int t)] rfl (fun a => Nat.le_of_ble_eq_true rfl) rfl ?_
  refine q_aload_n dX9_shutdown_0 rfl ?_
  refine q_getR 0 9 1 2 (is_0 n) (by decide) rfl rfl (by decide) f_X9_22 rfl dX9_shutdown_1 ?_
  refine q_iload_n dX9_shutdown_4 rfl ?_
  refine q_iload_n dX9_shutdown_5 rfl ?_
  refine q_calli [.int _, .int _] o_X5_canShut rfl k_X9_169 rfl (is_2 n) (by decide) rfl dX9_shutdown_6 (Nat.le_of_ble_eq_true rfl) (by omega) (by decide) (by omega) (Or.inr rfl) (c_canShut l n (d - 1) I L q t) (fun _ _ _ h => h.elim) (fun r2 I2 L2 hq => ?_)
  obtain ⟨e1, e2, e3⟩ := hq
  cases e1
  cases e2.symm
  cases e3.symm
  refine q_if_ne 22 dX9_shutdown_9 (by decide) (fun h9 => ?_) (fun h9 => ?_)
  · rw [ne_eq, bI_z, Decidable.not_not] at h9
    refine q_aload_n dX9_shutdown_22 rfl ?_
    refine q_getR 0 9 1 2 (is_0 n) (by decide) rfl rfl (by decide) f_X9_22 rfl dX9_shutdown_23 ?_
    refine q_iload_n dX9_shutdown_26 rfl ?_
    refine q_iload_n dX9_shutdown_27 rfl ?_
    refine q_callv [.int _, .int _] o_X5_shutAll rfl k_X9_175 rfl (is_2 n) (by decide) rfl dX9_shutdown_28 (Nat.le_of_ble_eq_true rfl) (by omega) (by decide) (by omega) rfl (c_shutAll l n (d - 1) I L q t hn h hb (by omega)) (fun _ _ _ h => h.elim) (fun I2 L2 hq => ?_)
    obtain ⟨-, hX⟩ := hq
    exact q_vret dX9_shutdown_31 rfl (by omega) (hV_0 (if_pos h9) hX)
  · rw [bI_z] at h9
    exact q_throw hl x_IAE rfl (List.mem_of_getElem? (i := 13) rfl) dX9_shutdown_12 dX9_shutdown_15 dX9_shutdown_16 dX9_shutdown_18 dX9_shutdown_21 (by omega) (Nat.le_of_ble_eq_true rfl) (by omega) (hX_1 (if_neg h9) h)
set_option maxHeartbeats 8000000 in
set_option maxRecDepth 100000 in
theorem h_step {S J : MI} {T M : ML} {w : Nat} (hl : l.stackTraces = false) (x : Int32) (hn : n < 2 ^ 31) (h : CX n S T w 0 0 J M I L) (h4 : ∀ i, S 208 i ≠ 4) (ho : ∀ i, obk S i) (hb : tr S + 40200 < 2 ^ 31) (hd : 170 ≤ d) : VM l n m_X9_step d 3 [.ref 0, .int x] I L (hN n J M (Hstep n S T x)) (hX iae ise n J M (Hstep n S T x)) := by
  refine VM_of _ [(0, .ref 0), (1, .int x)] rfl (fun a => Nat.le_of_ble_eq_true rfl) rfl ?_
  refine q_aload_n dX9_step_0 rfl ?_
  refine q_iload_n dX9_step_1 rfl ?_
  refine q_callv [.int _] o_X9_needLoop rfl k_X9_80 rfl (is_0 n) (by decide) rfl dX9_step_2 (Nat.le_of_ble_eq_true rfl) (by omega) (by decide) (by omega) rfl (c_needLoop l n (d - 1) I L (x) hl (by omega)) (fun E9 I9 L9 hq9 => by obtain ⟨a9, b9, c9, d9⟩ := hq9; cases b9; cases c9.symm; cases d9.symm; exact (fun q => hX_1 (if_neg q) h) a9) (fun I9 L9 hq9 => ?_)
  obtain ⟨ht, -, e8, e9⟩ := hq9
  cases e8.symm
  cases e9.symm
  have hnx := isL_nbt h.2.1.1.2 ht
  refine q_aload_n dX9_step_5 rfl ?_
  refine q_getR 0 9 0 1 (is_0 n) (by decide) rfl rfl (by decide) f_X9_14 rfl dX9_step_6 ?_
  refine q_iload_n dX9_step_9 rfl ?_
  rw [hnx.1]
  refine q_calli [.int _] o_X4_takeStep rfl k_X9_179 rfl (is_1 n) (by decide) rfl dX9_step_10 (Nat.le_of_ble_eq_true rfl) (by omega) (by decide) (by omega) (Or.inl rfl) (c_takeStep l n (d - 1) I L (N x) hn hnx.2 h (h4 _) (ho _) hb (by omega)) (fun _ _ _ h => h.elim) (fun r2 I2 L2 hq => ?_)
  obtain ⟨e1, w2, hX⟩ := hq
  cases e1
  rw [← hnx.1]
  exact q_iret dX9_step_13 rfl (by omega) (hN_0 (if_pos ht) hX)
set_option maxHeartbeats 8000000 in
set_option maxRecDepth 100000 in
theorem h_loop {S J : MI} {T M : ML} {w : Nat} (hl : l.stackTraces = false) (x what : Int32) (hn : n < 2 ^ 31) (h : CX n S T w 0 0 J M I L) (hd : 170 ≤ d) : VM l n m_X9_loop d 3 [.ref 0, .int x, .int what] I L (hN n J M (Hloop n S T x what)) (hX iae ise n J M (Hloop n S T x what)) := by
  refine VM_of _ [(0, .ref 0), (1, .int x), (2, .int what)] rfl (fun a => Nat.le_of_ble_eq_true rfl) rfl ?_
  have hb1 : ¬ (isL n x ∧ 0 ≤ what ∧ what ≤ 4) → Hloop n S T x what = (1, 0, S, T) := fun q => if_neg q
  refine q_aload_n dX9_loop_0 rfl ?_
  refine q_iload_n dX9_loop_1 rfl ?_
  refine q_callv [.int _] o_X9_needLoop rfl k_X9_80 rfl (is_0 n) (by decide) rfl dX9_loop_2 (Nat.le_of_ble_eq_true rfl) (by omega) (by decide) (by omega) rfl (c_needLoop l n (d - 1) I L (x) hl (by omega)) (fun E9 I9 L9 hq9 => by obtain ⟨a9, b9, c9, d9⟩ := hq9; cases b9; cases c9.symm; cases d9.symm; exact (fun q => hX_1 (hb1 (fun r => q r.1)) h) a9) (fun I9 L9 hq9 => ?_)
  obtain ⟨ht, -, e8, e9⟩ := hq9
  cases e8.symm
  cases e9.symm
  have hnx := isL_nbt h.2.1.1.2 ht
  have hx2 := hnx.2
  obtain ⟨cq, cm, cl⟩ := h.1.2.2.2.2.2 (N x) hx2
  have ib := (h.2.1.2.2.2.2.2.2.1 (N x) hx2).2.1
  refine q_aload_n dX9_loop_5 rfl ?_
  refine q_getR 0 9 1 2 (is_0 n) (by decide) rfl rfl (by decide) f_X9_22 rfl dX9_loop_6 ?_
  refine q_getR 2 5 1 321 (is_2 n) (by decide) rfl rfl (by decide) f_X9_182 rfl dX9_loop_9 ?_
  refine q_iload_n dX9_loop_12 rfl ?_
  refine q_aald 321 (N x) (lid (N x) 0) hn (is_321 n) hnx.1 (by show _ < n; exact hx2) rfl dX9_loop_13 ?_
  refine q_astore_n [(3, _), (0, _), (1, _), (2, _)] dX9_loop_14 (by decide) rfl ?_
  refine q_iload_n dX9_loop_15 rfl ?_
  by_cases hw : 0 ≤ what ∧ what ≤ 4
  · obtain ⟨q, hq, rfl⟩ := nI_of2 (n := 4) (by decide) (Int32.not_lt.mpr hw.1) hw.2
    have hz : ∀ r, (if nI q = 0 then S 208 (N x) else if nI q = 1 then S 209 (N x) else if nI q = 2 then nI (Fcnt S (N x) (N (S 30 23))) else if nI q = 3 then bI (S 214 (N x) ≠ 0) else S 210 (N x)) = r → Hloop n S T x (nI q) = (0, r, S, T) := fun r e => by rw [Hloop, if_pos ⟨ht, hw.1, hw.2⟩, e]
    rcases (show q = 0 ∨ q = 1 ∨ q = 2 ∨ q = 3 ∨ q = 4 by omega) with rfl | rfl | rfl | rfl | rfl
    · refine q_swIn 52 dX9_loop_16 (by decide) (by decide) rfl (by decide) ?_
      refine q_aload_n dX9_loop_52 rfl ?_
      refine q_getI (lid (N x) 0) 1 2 (vq_isL (hx2) 0 (by decide) rfl) (by decide) rfl (by decide) f_X9_186 rfl dX9_loop_53 ?_
      exact q_iret dX9_loop_56 rfl (by omega) (hN_0 (hz _ (by rw [if_pos (by decide)]; exact cl.1.symm)) h)
    · refine q_swIn 57 dX9_loop_16 (by decide) (by decide) rfl (by decide) ?_
      refine q_aload_n dX9_loop_57 rfl ?_
      refine q_getR (lid (N x) 0) 1 0 (lid (N x) 1) (vq_isL (hx2) 0 (by decide) rfl) (by decide) rfl ((gr_lid (N x) 0 0 (by decide)).trans rfl) (by decide) f_X9_191 rfl dX9_loop_58 ?_
      refine q_getI (lid (N x) 1) 3 4 (vq_isL (hx2) 1 (by decide) rfl) (by decide) rfl (by decide) f_X9_195 rfl dX9_loop_61 ?_
      exact q_iret dX9_loop_64 rfl (by omega) (hN_0 (hz _ (by rw [if_neg (by decide), if_pos (by decide)]; exact cq.1.symm)) h)
    · refine q_swIn 65 dX9_loop_16 (by decide) (by decide) rfl (by decide) ?_
      refine q_aload_n dX9_loop_65 rfl ?_
      refine q_getR (lid (N x) 0) 1 1 (lid (N x) 2) (vq_isL (hx2) 0 (by decide) rfl) (by decide) rfl ((gr_lid (N x) 0 1 (by decide)).trans rfl) (by decide) f_X9_198 rfl dX9_loop_66 ?_
      refine q_getI (lid (N x) 2) 7 3 (vq_isL (hx2) 2 (by decide) rfl) (by decide) rfl (by decide) f_X9_202 rfl dX9_loop_69 ?_
      exact q_iret dX9_loop_72 rfl (by omega) (hN_0 (hz _ (by rw [if_neg (by decide), if_neg (by decide), if_pos (by decide)]; exact cm.1.symm)) h)
    · refine q_swIn 73 dX9_loop_16 (by decide) (by decide) rfl (by decide) ?_
      refine q_aload_n dX9_loop_73 rfl ?_
      refine q_getI (lid (N x) 0) 1 4 (vq_isL (hx2) 0 (by decide) rfl) (by decide) rfl (by decide) f_X9_205 rfl dX9_loop_74 ?_
      refine q_iconst (-1) dX9_loop_77 (by decide) ?_
      rcases ib.1 with b0 | b1
      · rw [cl.2.2.1 b0]
        refine q_icmp_eq 85 dX9_loop_78 (by decide) (fun _ => ?_) (fun q => absurd rfl q)
        refine q_iconst (0) dX9_loop_85 (by decide) ?_
        exact q_iret dX9_loop_86 rfl (by omega) (hN_0 (hz _ (by rw [if_neg (by decide), if_neg (by decide), if_neg (by decide), if_pos (by decide), bI_f (by simp [b0])])) h)
      · obtain ⟨k1, k2, k3⟩ := ib.2 b1
        rw [(cl.2.2.2.1 b1).1]
        have h32 := h.2.1.2.2.2.1.1.2
        have hlt := k3.2
        refine q_icmp_eq 85 dX9_loop_78 (by decide) (fun q => absurd q.symm (by rw [k3.1]; exact nI_ne_m1 (by omega))) (fun _ => ?_)
        refine q_iconst (1) dX9_loop_81 (by decide) ?_
        refine q_goto 86 dX9_loop_82 (by decide) ?_
        exact q_iret dX9_loop_86 rfl (by omega) (hN_0 (hz _ (by rw [if_neg (by decide), if_neg (by decide), if_neg (by decide), if_pos (by decide), bI_t (by rw [b1]; decide)])) h)
    · refine q_swIn 87 dX9_loop_16 (by decide) (by decide) rfl (by decide) ?_
      refine q_aload_n dX9_loop_87 rfl ?_
      refine q_getI (lid (N x) 0) 1 3 (vq_isL (hx2) 0 (by decide) rfl) (by decide) rfl (by decide) f_X9_208 rfl dX9_loop_88 ?_
      exact q_iret dX9_loop_91 rfl (by omega) (hN_0 (hz _ (by rw [if_neg (by decide), if_neg (by decide), if_neg (by decide), if_neg (by decide)]; exact cl.2.1.symm)) h)
  · refine q_swOut 92 dX9_loop_16 (by simp only [Int32.le_iff_toInt_le, show (0 : Int32).toInt = 0 from rfl, show (4 : Int32).toInt = 4 from rfl] at hw; omega) (by decide) ?_
    exact q_throw hl x_IAE rfl (List.mem_of_getElem? (i := 14) rfl) dX9_loop_92 dX9_loop_95 dX9_loop_96 dX9_loop_98 dX9_loop_101 (by omega) (Nat.le_of_ble_eq_true rfl) (by omega) (hX_1 (hb1 (fun z => hw z.2)) h)
set_option maxHeartbeats 8000000 in
set_option maxRecDepth 100000 in
theorem h_look {S J : MI} {T M : ML} {w : Nat} (hl : l.stackTraces = false) (p what : Int32) (hn : n < 2 ^ 31) (h : CX n S T w 0 0 J M I L) (hd : 170 ≤ d) : VM l n m_X9_look d 3 [.ref 0, .int p, .int what] I L (hN n J M (Hlook S T p what)) (hX iae ise n J M (Hlook S T p what)) := by
  refine VM_of _ [(0, .ref 0), (1, .int p), (2, .int what)] rfl (fun a => Nat.le_of_ble_eq_true rfl) rfl ?_
  have e4 : I 5 6 = S 30 27 := h.1.2.2.1.1
  have hb1 : ¬ (isP S p ∧ 0 ≤ what ∧ what ≤ 2) → Hlook S T p what = (1, 0, S, T) := fun q => if_neg q
  refine q_aload_n dX9_look_0 rfl ?_
  refine q_iload_n dX9_look_1 rfl ?_
  refine q_callv [.int _] o_X9_needPromise rfl k_X9_144 rfl (is_0 n) (by decide) rfl dX9_look_2 (Nat.le_of_ble_eq_true rfl) (by omega) (by decide) (by omega) rfl (c_needPromise l n (d - 1) I L (p) hl (by omega)) (fun E9 I9 L9 hq9 => by obtain ⟨a9, b9, c9, d9⟩ := hq9; cases b9; cases c9.symm; cases d9.symm; exact (fun q => hX_1 (hb1 (fun r => q (by rw [e4]; exact r.1))) h) a9) (fun I9 L9 hq9 => ?_)
  obtain ⟨ht, -, e8, e9⟩ := hq9
  cases e8.symm
  cases e9.symm
  rw [e4] at ht
  have hnp := isP_nbt h.2.1 ht
  have hp2 := hnp.2
  have h32 := h.2.1.2.2.2.1.1.2
  refine q_iload_n dX9_look_5 rfl ?_
  by_cases hw : 0 ≤ what ∧ what ≤ 2
  · obtain ⟨q, hq, rfl⟩ := nI_of2 (n := 2) (by decide) (Int32.not_lt.mpr hw.1) hw.2
    have hz : ∀ r, (if nI q = 0 then S 229 (N p) else if nI q = 1 then S 230 (N p) else S 232 (N p)) = r → Hlook S T p (nI q) = (0, r, S, T) := fun r e => by rw [Hlook, if_pos ⟨ht, hw.1, hw.2⟩, e]
    rcases (show q = 0 ∨ q = 1 ∨ q = 2 by omega) with rfl | rfl | rfl
    · refine q_swIn 32 dX9_look_6 (by decide) (by decide) rfl (by decide) ?_
      refine q_aload_n dX9_look_32 rfl ?_
      refine q_getR 0 9 4 5 (is_0 n) (by decide) rfl rfl (by decide) f_X9_39 rfl dX9_look_33 ?_
      refine q_getR 5 2 1 351 (is_5 n) (by decide) rfl rfl (by decide) f_X9_213 rfl dX9_look_36 ?_
      refine q_iload_n dX9_look_39 rfl ?_
      refine q_iald 351 (N p) hn (is_351 n) hnp.1 (by show _ < 32; omega) dX9_look_40 ?_
      exact q_iret dX9_look_41 rfl (by omega) (hN_0 (hz _ (by rw [if_pos (by decide)]; exact (congrFun h.1.2.2.1.2.2.1 _).symm)) h)
    · refine q_swIn 42 dX9_look_6 (by decide) (by decide) rfl (by decide) ?_
      refine q_aload_n dX9_look_42 rfl ?_
      refine q_getR 0 9 4 5 (is_0 n) (by decide) rfl rfl (by decide) f_X9_39 rfl dX9_look_43 ?_
      refine q_getR 5 2 2 352 (is_5 n) (by decide) rfl rfl (by decide) f_X9_216 rfl dX9_look_46 ?_
      refine q_iload_n dX9_look_49 rfl ?_
      refine q_iald 352 (N p) hn (is_352 n) hnp.1 (by show _ < 32; omega) dX9_look_50 ?_
      exact q_iret dX9_look_51 rfl (by omega) (hN_0 (hz _ (by rw [if_neg (by decide), if_pos (by decide)]; exact (congrFun h.1.2.2.1.2.2.2.1 _).symm)) h)
    · refine q_swIn 52 dX9_look_6 (by decide) (by decide) rfl (by decide) ?_
      refine q_aload_n dX9_look_52 rfl ?_
      refine q_getR 0 9 4 5 (is_0 n) (by decide) rfl rfl (by decide) f_X9_39 rfl dX9_look_53 ?_
      refine q_getR 5 2 4 354 (is_5 n) (by decide) rfl rfl (by decide) f_X9_219 rfl dX9_look_56 ?_
      refine q_iload_n dX9_look_59 rfl ?_
      refine q_iald 354 (N p) hn (is_354 n) hnp.1 (by show _ < 32; omega) dX9_look_60 ?_
      exact q_iret dX9_look_61 rfl (by omega) (hN_0 (hz _ (by rw [if_neg (by decide), if_neg (by decide)]; exact (congrFun h.1.2.2.1.2.2.2.2.2.1 _).symm)) h)
  · refine q_swOut 62 dX9_look_6 (by simp only [Int32.le_iff_toInt_le, show (0 : Int32).toInt = 0 from rfl, show (2 : Int32).toInt = 2 from rfl] at hw; omega) (by decide) ?_
    exact q_throw hl x_IAE rfl (List.mem_of_getElem? (i := 14) rfl) dX9_look_62 dX9_look_65 dX9_look_66 dX9_look_68 dX9_look_71 (by omega) (Nat.le_of_ble_eq_true rfl) (by omega) (hX_1 (hb1 (fun z => hw z.2)) h)
set_option maxHeartbeats 8000000 in
set_option maxRecDepth 100000 in
theorem h_traced {S J : MI} {T M : ML} {w : Nat} (hl : l.stackTraces = false) (hn : n < 2 ^ 31) (h : CX n S T w 0 0 J M I L) (hd : 170 ≤ d) : VM l n m_X9_traced d 3 [.ref 0] I L (hN n J M (Htraced S T)) (hX iae ise n J M (Htraced S T)) := by
  refine VM_of _ [(0, .ref 0)] rfl (fun a => Nat.le_of_ble_eq_true rfl) rfl ?_
  refine q_aload_n dX9_traced_0 rfl ?_
  refine q_getR 0 9 2 3 (is_0 n) (by decide) rfl rfl (by decide) f_X9_29 rfl dX9_traced_1 ?_
  refine q_getI 3 8 1 (is_3 n) (by decide) rfl (by decide) f_X9_222 rfl dX9_traced_4 ?_
  rw [show I 3 1 = S 30 41 from h.1.1.1]
  exact q_iret dX9_traced_7 rfl (by omega) (hN_0 rfl h)
set_option maxHeartbeats 8000000 in
set_option maxRecDepth 100000 in
theorem h_trace {S J : MI} {T M : ML} {w : Nat} (hl : l.stackTraces = false) (k what : Int32) (hn : n < 2 ^ 31) (h : CX n S T w 0 0 J M I L) (hb : tr S + 400 < 2 ^ 31) (hd : 170 ≤ d) : VM l n m_X9_trace d 3 [.ref 0, .int k, .int what] I L (hN n J M (Htrace S T k what)) (hX iae iob n J M (Htrace S T k what)) := by
  refine VM_of _ [(0, .ref 0), (1, .int k), (2, .int what)] rfl (fun a => Nat.le_of_ble_eq_true rfl) rfl ?_
  have hc := h.1.1.1
  have hct := CX_cnt h
  have hb1 : ¬ (0 ≤ what ∧ what ≤ 2) → Htrace S T k what = (1, 0, S, T) := fun q => if_neg q
  refine q_iload_n dX9_trace_0 rfl ?_
  refine q_if_lt 9 dX9_trace_1 (by decide) (fun h1 => ?_) (fun h1 => ?_)
  · exact q_throw hl x_IAE rfl (List.mem_of_getElem? (i := 14) rfl) dX9_trace_9 dX9_trace_12 dX9_trace_13 dX9_trace_15 dX9_trace_18 (by omega) (Nat.le_of_ble_eq_true rfl) (by omega) (hX_1 (hb1 (fun z => absurd h1 (Int32.not_lt.mpr z.1))) h)
  · refine q_iload_n dX9_trace_4 rfl ?_
    refine q_iconst (3) dX9_trace_5 (by decide) ?_
    refine q_icmp_lt 19 dX9_trace_6 (by decide) (fun h6 => ?_) (fun h6 => ?_)
    · have hw : 0 ≤ what ∧ what ≤ 2 := ⟨Int32.not_lt.mp h1, by simp only [Int32.lt_iff_toInt_lt, Int32.le_iff_toInt_le, show (3 : Int32).toInt = 3 from rfl, show (2 : Int32).toInt = 2 from rfl] at h6 ⊢; omega⟩
      have hz : Htrace S T k what = if (0 ≤ k ∧ k < S 30 41) ∧ S 30 41 ≤ k + 300 then (0, (if what = 0 then S 242 (N k % 300) else if what = 1 then S 243 (N k % 300) else S 244 (N k % 300)), S, T) else (2, 0, S, T) := if_pos hw
      refine q_aload_n dX9_trace_19 rfl ?_
      refine q_getR 0 9 2 3 (is_0 n) (by decide) rfl rfl (by decide) f_X9_29 rfl dX9_trace_20 ?_
      refine q_iload_n dX9_trace_23 rfl ?_
      refine q_calli [.int _] o_X8_keeps rfl k_X9_225 rfl (is_3 n) (by decide) rfl dX9_trace_24 (Nat.le_of_ble_eq_true rfl) (by omega) (by decide) (by omega) (Or.inr rfl) (c_keeps l n (d - 1) I L k) (fun _ _ _ h => h.elim) (fun r2 I2 L2 hq => ?_)
      obtain ⟨e1, e2, e3⟩ := hq
      cases e1
      cases e2.symm
      cases e3.symm
      rw [hc]
      have hk : (0 ≤ k ∧ k < S 30 41 ∧ S 30 41 - 300 ≤ k) ↔ ((0 ≤ k ∧ k < S 30 41) ∧ S 30 41 ≤ k + 300) := tr_keep (Inv_tr h.2.1) hb
      refine q_if_ne 40 dX9_trace_27 (by decide) (fun h27 => ?_) (fun h27 => ?_)
      · rw [ne_eq, bI_z, Decidable.not_not] at h27
        have hkk := hk.mp h27
        rw [if_pos hkk] at hz
        obtain ⟨q, hq, hqe⟩ := nI_of2 (n := 2) (by decide) (Int32.not_lt.mpr hw.1) hw.2
        obtain ⟨q2, hq2, hq2e⟩ := nI_of (Int32.not_lt.mpr hkk.1.1)
        subst hqe
        subst hq2e
        rw [N_nI hq2] at hz
        refine q_aload_n dX9_trace_40 rfl ?_
        refine q_getR 0 9 2 3 (is_0 n) (by decide) rfl rfl (by decide) f_X9_29 rfl dX9_trace_41 ?_
        refine q_iload_n dX9_trace_44 rfl ?_
        refine q_iload_n dX9_trace_45 rfl ?_
        refine q_calli [.int _, .int _] o_X8_read rfl k_X9_233 rfl (is_3 n) (by decide) rfl dX9_trace_46 (Nat.le_of_ble_eq_true rfl) (by omega) (by decide) (by omega) (Or.inl rfl) (c_read l n (d - 1) I L q2 q hn hq2 (by omega)) (fun _ _ _ h => h.elim) (fun r2 I2 L2 hq => ?_)
        obtain ⟨e1, e2, e3⟩ := hq
        cases e1
        cases e2.symm
        cases e3.symm
        obtain ⟨a1, a2, a3⟩ := h.1.1.2 (q2 % 300) (Nat.mod_lt _ (by decide))
        refine q_iret dX9_trace_49 rfl (by omega) (hN_0 (hz.trans ?_) h)
        rcases (show q = 0 ∨ q = 1 ∨ q = 2 by omega) with rfl | rfl | rfl
        · rw [if_pos (by decide), ← a1]
          rfl
        · rw [if_neg (by decide), if_pos (by decide), ← a2]
        · rw [if_neg (by decide), if_neg (by decide), ← a3]
      · rw [bI_z] at h27
        exact q_throw hl x_IOB rfl (List.mem_of_getElem? (i := 15) rfl) dX9_trace_30 dX9_trace_33 dX9_trace_34 dX9_trace_36 dX9_trace_39 (by omega) (Nat.le_of_ble_eq_true rfl) (by omega) (hX_2 (hz.trans (if_neg (fun z => h27 (hk.mpr z)))) h)
    · exact q_throw hl x_IAE rfl (List.mem_of_getElem? (i := 14) rfl) dX9_trace_9 dX9_trace_12 dX9_trace_13 dX9_trace_15 dX9_trace_18 (by omega) (Nat.le_of_ble_eq_true rfl) (by omega) (hX_1 (hb1 (fun z => h6 (by have := z.2; simp only [Int32.lt_iff_toInt_lt, Int32.le_iff_toInt_le, show (3 : Int32).toInt = 3 from rfl, show (2 : Int32).toInt = 2 from rfl] at this ⊢; omega))) h)
end

