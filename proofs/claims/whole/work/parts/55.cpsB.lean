section
variable {l : Launch} {n : Nat} {th : Int32} {g : Nat} {Df : Nat → Nat → Nat → PX → PX} {G : Nat → Nat → Nat → Int32 → PX → PX} {Q : vq_R} {d E nf fr : Nat} {S I : MI} {T L : ML} {w : Nat}
theorem nbt_nI {t b : Nat} (h : t < b) (hb : b < 2 ^ 31) : nbt (nI t) b := by
  unfold nbt
  rw [N_nI (by omega)]
  exact ⟨rfl, h⟩
set_option maxHeartbeats 4000000 in
set_option maxRecDepth 100000 in
theorem run_tell (hrD : nbt th n → rDo l n th g Df) (hn : n < 2 ^ 31) (hg : 13 ≤ nf + 2 * fr + (g + 1)) (hnf : nf ≤ 4) (hfr : fr ≤ 4) (hd : 20 ≤ d) (hE0 : nbt th n → 0 < E) (hEb : E ≤ 2 * nf + 2 * fr + 1) (hR : RS th (S, T, w) I L) (hi : Inv n S) (hK : HK S) (hb : Ph (S, T, w) + 2110 < 2 ^ 31) (h45 : I 30 45 = nI E) (c1 : Rcnt I 1 E = nf) (c4 : Rcnt I 4 E = fr) {p t : Nat} (hp : p < N (S 30 27)) (ht : t < N (S 30 3)) (hE : rEnd l n d Q th E I L (Ltell Df th nf fr p t (S, T, w))) : RV l n d Q (Rtell I E p (nI t)) L := by
  have hw : w ≤ 1000 := hR.w
  have hS : co I = S := hR.1.1
  have hbt : tr S + 2110 < 2 ^ 31 := Ph_tr (x := (S, T, w)) hb
  have e228 : I 228 p = S 228 p := by rw [← hS, co_228]
  have e51 : I 30 51 = th := hR.2.2
  rw [Rtell, e51, e228, c1]
  by_cases hcn : S 228 p = th ∧ nf < 4
  · rw [if_pos hcn]
    rw [Ltell, if_pos hcn] at hE
    have hnb : nbt th n := by rw [← hcn.1]; exact (hi.2.2.2.1.2 p hp).1
    have hlg := gc_log (T := T) (w := w) th 5 (nI t) hi hw (by omega)
    have hlp := hlg.2
    have e3 : (Flog S th 5 (nI t)) 30 3 = S 30 3 := hlg.1.2.1.1.2.1
    have hnc := nc_log I th 5 (nI t)
    have hR2 : RS th (Flog S th 5 (nI t), T, w) (Flog I th 5 (nI t)) L := hR.nc hnc (by rw [co_log, hS]) hR.1.2 (by rw [(tr_log S th 5 (nI t) (by omega)).1]; exact Nat.le_succ _)
    have k1 : KP E I (Rpush (Flog I th 5 (nI t)) E 1 (nI t) 0) := (KP.nc hnc).tns KP.push
    have hTp : TP E (Rpush (Flog I th 5 (nI t)) E 1 (nI t) 0) 1 (nI t) 0 0 0 := TP.push
    refine hrD hnb d (nf + 1) fr t E (Flog S th 5 (nI t), T, w) _ L Q 1 0 0 hd (by omega) (by omega) hfr hR2.push hlg.1.1 (hK.st hlg.1.2.1.1) (by show t < N (Flog S th 5 (nI t) 30 3); rw [e3]; exact ht) (by omega) hTp (Or.inl rfl) (hE0 hnb) (by omega) (Or.inl (by omega)) ?_ ?_ (hE.tns k1 KL.rf)
    · rw [hTp.cnt, Rcnt.kp 1 k1, c1, if_pos rfl]
    · rw [hTp.cnt, Rcnt.kp 4 k1, c4, if_neg (by decide), Nat.add_zero]
  · rw [if_neg hcn]
    rw [Ltell, if_neg hcn] at hE
    exact hE.nc hR (nc_put _ _ _ _ _ _ _) ncL.rf (by rw [co_put, hS]) hR.1.2 (tr_put _ _ _ _ _ _ _ (by omega)) h45
set_option maxHeartbeats 4000000 in
set_option maxRecDepth 100000 in
theorem run_fin (hrD : nbt th n → rDo l n th g Df) (hD : nbt th n → hypD n Df) (hn : n < 2 ^ 31) (hg : 13 ≤ nf + 2 * fr + (g + 1)) (hnf : nf ≤ 4) (hfr : fr ≤ 4) (hd : 20 ≤ d) (hEb : E ≤ 2 * nf + 2 * fr + 1) (hR : RS th (S, T, w) I L) (hi : Inv n S) (hK : HK S) (hb : Ph (S, T, w) + 2124 < 2 ^ 31) (h45 : I 30 45 = nI E) (c1 : Rcnt I 1 E = nf) (c4 : Rcnt I 4 E = fr) {p : Nat} {how v : Int32} (hh : how ≠ 0) (hp : p < N (S 30 27)) (hE : rEnd l n d Q th E I L (Lfin Df th nf fr p how v (S, T, w))) : RV l n d Q (Rfin I E p how v) L := by
  have hw : w ≤ 1000 := hR.w
  have hS : co I = S := hR.1.1
  have hbt : tr S + 2124 < 2 ^ 31 := Ph_tr (x := (S, T, w)) hb
  have e229 : I 229 p = S 229 p := by rw [← hS, co_229]
  have e231 : I 231 p = S 231 p := by rw [← hS, co_231]
  have e232 : I 232 p = S 232 p := by rw [← hS, co_232]
  obtain ⟨a1, a2, a3⟩ := hi.2.2.2.1.2 p hp
  have a22 := a2.2
  have hno : noFin I p how ↔ noFin S p how := by unfold noFin; rw [e229, e231]
  rw [Rfin]
  by_cases hc : noFin S p how
  · rw [if_pos (hno.mpr hc)]
    rw [Lfin, if_pos hc] at hE
    exact hE I L hR KP.rf KL.rf h45
  · rw [if_neg (fun q => hc (hno.mp q))]
    rw [Lfin, if_neg hc] at hE
    have hnc := nc_fin I p how v
    have etr : tr (Ffin S p how v) = tr S := by simp [tr, Ffin, rdI]
    have hR2 : RS th (Ffin S p how v, T, w) (Ffin I p how v) L := hR.nc hnc (by rw [co_fin, hS]) hR.1.2 (by rw [etr]; exact Nat.le_refl _)
    rw [e232]
    by_cases h0 : 0 < S 232 p
    · rw [if_pos h0]
      have k1 : KP E I (Rpush (Ffin I p how v) E 3 (nI p) (S 232 p)) := (KP.nc hnc).tns KP.push
      have hTp : TP E (Rpush (Ffin I p how v) E 3 (nI p) (S 232 p)) 3 (nI p) (nI 0) (nI (N (S 232 p))) 0 := by rw [← a2.1]; exact TP.push
      have hph : Ph (Ffin S p how v, T, w) = Ph (S, T, w) := by simp only [Ph, etr]
      exact run_tells hrD hD hn hg hnf hfr hd a22 hEb (N (S 232 p)) 0 (Ffin S p how v, T, w) _ L 0 (by omega) hR2.push (Inv_fin how v hi) (hK.st St_fin) (by show p < N (Ffin S p how v 30 27); simpa [Ffin, rdI] using hp) (by show Ffin S p how v 229 p ≠ 0; simpa [Ffin, rdI] using hh) (fun i hi9 => by show nbt (Ffin S p how v 233 (6 * p + i)) (N (Ffin S p how v 30 3)); simpa [Ffin, rdI] using a3 i hi9) (by rw [hph]; omega) hTp ((Rcnt.kp 1 k1).trans c1) ((Rcnt.kp 4 k1).trans c4) (hE.tns k1 KL.rf)
    · rw [if_neg h0]
      have hz : N (S 232 p) = 0 := by
        rcases Nat.eq_zero_or_pos (N (S 232 p)) with q | q
        · exact q
        · exact absurd (by rw [a2.1]; exact nI_lt (a := 0) q (by omega)) h0
      rw [hz] at hE
      exact hE.nc hR hnc ncL.rf (by rw [co_fin, hS]) hR.1.2 (by rw [etr]; exact Nat.le_refl _) h45
set_option maxHeartbeats 4000000 in
set_option maxRecDepth 100000 in
theorem run_lis (hrD : nbt th n → rDo l n th g Df) (hn : n < 2 ^ 31) (hg : 13 ≤ nf + 2 * fr + (g + 1)) (hnf : nf ≤ 4) (hfr : fr ≤ 4) (hd : 20 ≤ d) (hE0 : nbt th n → 0 < E) (hEb : E ≤ 2 * nf + 2 * fr + 1) (hR : RS th (S, T, w) I L) (hi : Inv n S) (hK : HK S) (hb : Ph (S, T, w) + 2110 < 2 ^ 31) (h45 : I 30 45 = nI E) (c1 : Rcnt I 1 E = nf) (c4 : Rcnt I 4 E = fr) {p t : Nat} (hp : p < N (S 30 27)) (ht : t < N (S 30 3)) (hE : rEnd l n d Q th E I L (Llis Df th nf fr p t (S, T, w))) : RV l n d Q (Rlis I E p t) L := by
  have hS : co I = S := hR.1.1
  have e229 : I 229 p = S 229 p := by rw [← hS, co_229]
  rw [Rlis, e229]
  by_cases hc : S 229 p ≠ 0
  · rw [if_pos hc]
    rw [Llis, if_pos hc] at hE
    exact run_tell hrD hn hg hnf hfr hd hE0 hEb hR hi hK hb h45 c1 c4 hp ht hE
  · rw [if_neg hc]
    rw [Llis, if_neg hc] at hE
    have etr : tr (Flis S p t) = tr S := by simp [tr, Flis, rdI]
    exact hE.nc hR (nc_lis _ _ _) ncL.rf (by rw [co_lis, hS]) hR.1.2 (by rw [etr]; exact Nat.le_refl _) h45
set_option maxHeartbeats 4000000 in
set_option maxRecDepth 100000 in
theorem run_send (hrG : nbt th n → rGo l n th g G) (hg : 12 ≤ nf + 2 * fr + g) (hnf : nf ≤ 4) (hd : 20 ≤ d) (hEb : E ≤ 2 * nf + 2 * fr + 1) (hR : RS th (S, T, w) I L) (hi : Inv n S) (hK : HK S) (hb : Ph (S, T, w) + 2120 < 2 ^ 31) (h45 : I 30 45 = nI E) (c1 : Rcnt I 1 E = nf) (c4 : Rcnt I 4 E = fr) {c : Nat} {m : Int32} (hc : c < N (S 30 34)) (hE : rEnd l n d Q th E I L (Lsend G th nf fr c m (S, T, w))) : RV l n d Q (Rsend I E c m) L := by
  have hS : co I = S := hR.1.1
  have hbt : tr S + 2120 < 2 ^ 31 := Ph_tr (x := (S, T, w)) hb
  have e235 : I 235 c = S 235 c := by rw [← hS, co_235]
  have e51 : I 30 51 = th := hR.2.2
  rw [Rsend, e51, e235, c4]
  by_cases hcn : S 235 c = th ∧ fr < 4
  · rw [if_pos hcn]
    rw [Lsend, if_pos hcn] at hE
    have hnb : nbt th n := by rw [← hcn.1]; exact (hi.2.2.2.2.1.2.2 c hc).1
    have k1 : KP E I (Rpush I E 4 (nI c) m) := KP.push
    exact hrG hnb d nf fr c E m (S, T, w) _ L Q hd hg hnf hcn.2 hR.push hi hK hc hb TP.push hEb ((Rcnt.kp 1 k1).trans c1) ((Rcnt.kp 4 k1).trans c4) (hE.tns k1 KL.rf)
  · rw [if_neg hcn]
    rw [Lsend, if_neg hcn] at hE
    exact hE.nc hR (nc_put _ _ _ _ _ _ _) ncL.rf (by rw [co_put, hS]) hR.1.2 (tr_put _ _ _ _ _ _ _ (by omega)) h45
set_option maxHeartbeats 8000000 in
set_option maxRecDepth 100000 in
theorem run_carry (hth : nbt th n) (hrD : rDo l n th g Df) (hD : hypD n Df) (hrG : rGo l n th g G) (hn : n < 2 ^ 31) (hg : 13 ≤ nf + 2 * fr + (g + 1)) (hnf : nf ≤ 4) (hfr : fr ≤ 4) (hd : 20 ≤ d) (hE0 : 0 < E) (hEb : E ≤ 2 * nf + 2 * fr + 1) (hR : RS th (S, T, w) I L) (hi : Inv n S) (hK : HK S) (hb : Ph (S, T, w) + 2124 < 2 ^ 31) (h45 : I 30 45 = nI E) (c1 : Rcnt I 1 E = nf) (c4 : Rcnt I 4 E = fr) (K A B : Int32) (hk8 : K ≠ 8) (hc : Fcan n S K A B) (hE : rEnd l n d Q th E I L (Lcarry n Df G th nf fr K A B (S, T, w))) : RV l n d Q (Rdo n I L E K A B).1 (Rdo n I L E K A B).2 := by
  have hS : co I = S := hR.1.1
  have hTT : coL L = T := hR.1.2
  have hbt : tr S + 2124 < 2 ^ 31 := Ph_tr (x := (S, T, w)) hb
  have e51 : I 30 51 = th := hR.2.2
  have hn8 := hi.1
  by_cases e0 : K = 0
  · subst e0
    rw [show Lcarry n Df G th nf fr 0 A B (S, T, w) = (Flog S th 0 A, T, w) from by unfold Lcarry; simp] at hE
    rw [show Rdo n I L E 0 A B = (Flog I (I 30 51) 0 A, L) from by unfold Rdo; simp, e51]
    exact hE.nc hR (nc_log _ _ _ _) ncL.rf (by rw [co_log, hS]) hTT (by rw [(tr_log S th 0 A (by omega)).1]; omega) h45
  by_cases e1 : K = 1
  · subst e1
    have etr : tr (FtgtS S B) = tr S := by unfold FtgtS FchS tr; split <;> simp [rdI]
    rw [show Lcarry n Df G th nf fr 1 A B (S, T, w) = (Fput (FtgtS S B) th (Ftgt n S th B) 0 A 0 A, T, w) from by unfold Lcarry; simp] at hE
    rw [show Rdo n I L E 1 A B = (Fput (FtgtS I B) (I 30 51) (Ftgt n I (I 30 51) B) 0 A 0 A, L) from by unfold Rdo; simp, e51]
    have hf : Ftgt n I th B = Ftgt n S th B := by rw [← hS]; rfl
    rw [hf]
    exact hE.nc hR ((nc_tgtS _ _).tr (nc_put _ _ _ _ _ _ _)) ncL.rf (by rw [co_put, co_tgtS, hS]) hTT (by have := tr_put (FtgtS S B) th (Ftgt n S th B) 0 A 0 A (by omega); omega) h45
  by_cases e2 : K = 2
  · subst e2
    rw [show Lcarry n Df G th nf fr 2 A B (S, T, w) = (Fsch S th (N th) A, TSch S T (N th) B.toInt64, w) from by unfold Lcarry; simp] at hE
    rw [show Rdo n I L E 2 A B = (Fsch I (I 30 51) (N (I 30 51)) A, TSch I L (N (I 30 51)) B.toInt64) from by unfold Rdo; simp, e51]
    exact hE.nc hR (nc_sch _ _ _ _) (ncL_sch _ _ _ _) (by rw [co_sch, hS]) (by rw [coL_sch, hS, hTT]) (tr_sch _ _ _ _ (by omega)) h45
  by_cases e3 : K = 3
  · subst e3
    rw [show Lcarry n Df G th nf fr 3 A B (S, T, w) = (upI S 226 (N A) (-1), T, w) from by unfold Lcarry; simp] at hE
    rw [show Rdo n I L E 3 A B = (upI I 226 (N A) (-1), L) from by unfold Rdo; simp]
    exact hE.nc hR (nc.rf.up (core_c (by decide) (by decide))) ncL.rf (by rw [cu_226, hS]) hTT (by simp [tr, rdI]) h45
  by_cases e4 : K = 4
  · subst e4
    have hc := isP_nbt hi (Fcan_4.mp hc)
    rw [show Lcarry n Df G th nf fr 4 A B (S, T, w) = Lfin Df th nf fr (N A) 1 B (S, T, w) from by unfold Lcarry; simp] at hE
    rw [show Rdo n I L E 4 A B = (Rfin I E (N A) 1 B, L) from by unfold Rdo; simp]
    exact run_fin (fun _ => hrD) (fun _ => hD) hn hg hnf hfr hd hEb hR hi hK hb h45 c1 c4 (by decide) hc.2 hE
  by_cases e5 : K = 5
  · subst e5
    have hc := isP_nbt hi (Fcan_5.mp hc)
    rw [show Lcarry n Df G th nf fr 5 A B (S, T, w) = Lfin Df th nf fr (N A) 2 B (S, T, w) from by unfold Lcarry; simp] at hE
    rw [show Rdo n I L E 5 A B = (Rfin I E (N A) 2 B, L) from by unfold Rdo; simp]
    exact run_fin (fun _ => hrD) (fun _ => hD) hn hg hnf hfr hd hEb hR hi hK hb h45 c1 c4 (by decide) hc.2 hE
  by_cases e6 : K = 6
  · subst e6
    have hc := isP_nbt hi (Fcan_6.mp hc)
    rw [show Lcarry n Df G th nf fr 6 A B (S, T, w) = Lfin Df th nf fr (N A) 3 B (S, T, w) from by unfold Lcarry; simp] at hE
    rw [show Rdo n I L E 6 A B = (Rfin I E (N A) 3 B, L) from by unfold Rdo; simp]
    exact run_fin (fun _ => hrD) (fun _ => hD) hn hg hnf hfr hd hEb hR hi hK hb h45 c1 c4 (by decide) hc.2 hE
  by_cases e7 : K = 7
  · subst e7
    have hc := Fcan_7.mp hc
    rw [show Lcarry n Df G th nf fr 7 A B (S, T, w) = Llis Df th nf fr (N A) (N B) (S, T, w) from by unfold Lcarry; simp] at hE
    rw [show Rdo n I L E 7 A B = (Rlis I E (N A) (N B), L) from by unfold Rdo; simp]
    exact run_lis (fun _ => hrD) hn hg hnf hfr hd (fun _ => hE0) hEb hR hi hK (by omega) h45 c1 c4 (isP_nbt hi hc.1).2 (isT_nbt hi hc.2.1).2 hE
  by_cases e10 : K = 10
  · subst e10
    have hc := isC_nbt hi (Fcan_10.mp hc)
    rw [show Lcarry n Df G th nf fr 10 A B (S, T, w) = Lsend G th nf fr (N A) B (S, T, w) from by unfold Lcarry; simp] at hE
    rw [show Rdo n I L E 10 A B = (Rsend I E (N A) B, L) from by unfold Rdo; simp]
    exact run_send (fun _ => hrG) (by omega) hnf hd hEb hR hi hK (by omega) h45 c1 c4 hc.2 hE
  by_cases e11 : K = 11
  · subst e11
    have hc := isC_nbt hi (Fcan_11.mp hc)
    obtain ⟨y1, y2, y3⟩ := peer_ok hi hc
    rw [show Lcarry n Df G th nf fr 11 A B (S, T, w) = Lsend G th nf fr (N (A ^^^ 1)) B (S, T, w) from by unfold Lcarry; simp] at hE
    rw [show Rdo n I L E 11 A B = (Rsend I E (N (A ^^^ 1)) B, L) from by unfold Rdo; simp]
    exact run_send (fun _ => hrG) (by omega) hnf hd hEb hR hi hK (by omega) h45 c1 c4 (by rw [y2]; exact y3) hE
  by_cases e12 : K = 12
  · subst e12
    rw [show Lcarry n Df G th nf fr 12 A B (S, T, w) = (Fshut S n, TShut S T A.toInt64 B.toInt64 n, w) from by unfold Lcarry; simp] at hE
    rw [show Rdo n I L E 12 A B = (Fshut I n, TShut I L A.toInt64 B.toInt64 n) from by unfold Rdo; simp]
    exact hE.nc hR (nc_shut _ _) (ncL_shut _ _ _ _ _) (by rw [co_shut, hS]) (by rw [coL_shut, hS, hTT]) (tr_shut _ _ (by omega)).1 h45
  by_cases e13 : K = 13
  · subst e13
    rw [show Lcarry n Df G th nf fr 13 A B (S, T, w) = (upI S 231 (N A) 1, T, w) from by unfold Lcarry; simp] at hE
    rw [show Rdo n I L E 13 A B = (upI I 231 (N A) 1, L) from by unfold Rdo; simp]
    exact hE.nc hR (nc.rf.up (core_c (by decide) (by decide))) ncL.rf (by rw [cu_231, hS]) hTT (by simp [tr, rdI]) h45
  exfalso
  by_cases e9 : K = 9
  · subst e9
    exact Fcan_9.mp hc
  refine Fcan_out (n := n) (S := S) (k := K) (a := A) (b := B) (fun j hj => ?_) hc
  rcases (show j = 0 ∨ j = 1 ∨ j = 2 ∨ j = 3 ∨ j = 4 ∨ j = 5 ∨ j = 6 ∨ j = 7 ∨ j = 8 ∨ j = 9 ∨ j = 10 ∨ j = 11 ∨ j = 12 ∨ j = 13 by omega) with rfl | rfl | rfl | rfl | rfl | rfl | rfl | rfl | rfl | rfl | rfl | rfl | rfl | rfl <;> assumption
end
