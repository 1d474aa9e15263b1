theorem Rcnt_wk1 (I : MI) (D k a : Nat) (w : Int32) (E : Nat) : Rcnt (Rwk1 I D k a) w E = Rcnt I w E := Rcnt_cong w E (fun j _ => by simp [Rwk1, rdI])
set_option maxHeartbeats 8000000 in
set_option maxRecDepth 100000 in
theorem run_ords {l : Launch} {n : Nat} {th : Int32} {g : Nat} {Df : Nat → Nat → Nat → PX → PX} {G : Nat → Nat → Nat → Int32 → PX → PX} (hth : nbt th n) (hrD : rDo l n th g Df) (hD : hypD n Df) (hrG : rGo l n th g G) (hG : hypG n G) {Q : vq_R} {d D t nf fr : Nat} (hn : n < 2 ^ 31) (hg : 13 ≤ nf + 2 * fr + (g + 1)) (hnf : nf ≤ 4) (hfr : fr ≤ 4) (hd : 20 ≤ d) (hDn : 0 < D ↔ (0 < nf ∨ 0 < fr)) (hDb : D ≤ 2 * nf + 2 * fr) : ∀ (m k : Nat) (x : PX) (I : MI) (L : ML) (wh mo tw : Int32), k + m = N (x.1 204 t) → RS th x I L → Inv n x.1 → HK x.1 → t < N (x.1 30 3) → Ph x + 2100 < 2 ^ 31 → TP D I wh (nI t) (nI k) mo tw → (wh ≠ 3 ∧ wh ≠ 4) → Rcnt I 1 (D + 1) = nf → Rcnt I 4 (D + 1) = fr → rEnd l n d Q th D I L (Lords n Df G th nf fr t m k x) → RV l n d Q I L
  | 0, k, x, I, L, wh, mo, tw, hkm, hR, hi, hK, ht, hb, hT, hwh, c1, c4, hE => by
    obtain ⟨S, T, w⟩ := x
    have hS : co I = S := hR.1.1
    change Inv n S at hi
    change t < N (S 30 3) at ht
    have h24 := hi.2.2.1.1.2
    have h8 := hi.2.2.1.2 t
    have e204 : I 204 t = S 204 t := by rw [← hS, co_204]
    refine it_pop l n d I L D t hn hT.1 (by omega) (by rw [hT.2.1]; exact hwh.1) (by rw [hT.2.1]; exact hwh.2) hT.2.2.1 (by omega) (by rw [hT.2.2.2.1, e204, h8.1, ← (show k + 0 = N (S 204 t) from hkm), Nat.add_zero]) ?_
    exact hE _ L (hR.fr (cu_30_45 _ _) (by simp [rdI]) (by simp [rdI])) (KP.rf.up (Or.inr ⟨rfl, by decide⟩)) KL.rf (by simp [rdI])
  | m + 1, k, x, I, L, wh, mo, tw, hkm, hR, hi, hK, ht, hb, hT, hwh, c1, c4, hE => by
    obtain ⟨S, T, w⟩ := x
    have hw : w ≤ 1000 := hR.w
    have hI : Inv n I := hR.inv hi
    have hS : co I = S := hR.1.1
    have hTT : coL L = T := hR.1.2
    obtain ⟨a, a1, a2, a3⟩ := hR.2.1.2 (fun q => no_host (n := n) (q ▸ hth))
    change w = min a 1000 at a2
    change a ≤ 1000 + tr S at a3
    change Inv n S at hi
    change t < N (S 30 3) at ht
    change k + (m + 1) = N (S 204 t) at hkm
    change HK S at hK
    have h24 := hi.2.2.1.1.2
    have h8 := (hi.2.2.1.2 t).2
    have hbt : tr S + 2100 < 2 ^ 31 := Ph_tr (x := (S, T, w)) hb
    have e51 : I 30 51 = th := hR.2.2
    have e204 : I 204 t = S 204 t := by rw [← hS, co_204]
    have e205 : I 205 (8 * t + k) = S 205 (8 * t + k) := by rw [← hS, co_205]
    have e206 : I 206 (8 * t + k) = S 206 (8 * t + k) := by rw [← hS, co_206]
    have e207 : I 207 (8 * t + k) = S 207 (8 * t + k) := by rw [← hS, co_207]
    have etr : tr I = tr S := by rw [← hS]; rfl
    have hKk := hK (8 * t + k)
    refine it_work l n d I L D t k a hn hI (by rw [e51]; exact hth) hT.1 (by omega) (by rw [hT.2.1]; exact hwh.1) (by rw [hT.2.1]; exact hwh.2) hT.2.2.1 (by omega) hT.2.2.2.1 (by rw [e204]; omega) a1 (by omega) (by rw [e205]; exact hKk.1) (by rw [e205]; exact hKk.2) (by omega) (by omega) ?_
    have gO := gc_ord hD hG hth nf fr (S 205 (8 * t + k)) (S 206 (8 * t + k)) (S 207 (8 * t + k)) (S, T, w) hi hw (by omega)
    simp only [Lords] at hE
    rw [Rwk, e205, e206, e207, e51]
    obtain ⟨K, hKe⟩ : ∃ K, S 205 (8 * t + k) = K := ⟨_, rfl⟩
    obtain ⟨A, hAe⟩ : ∃ A, S 206 (8 * t + k) = A := ⟨_, rfl⟩
    obtain ⟨B, hBe⟩ : ∃ B, S 207 (8 * t + k) = B := ⟨_, rfl⟩
    rw [hKe, hAe, hBe] at hE gO ⊢
    have hcan : Fcan n I K A B ↔ Fcan n S K A B := by rw [← hS]; exact (Fcan_co I K A B).symm
    have hco1 : co (Rwk1 I D k a) = S := by rw [co_wk1, hS]
    by_cases hth9 : 1000 ≤ a ∨ ¬ Fcan n S K A B
    · rw [if_pos (hth9.imp_right (fun q z => q (hcan.mp z)))]
      have hfin : ∀ w', w' = min (a + 1) 1000 → rEnd l n d Q th D I L (Flog S th 2 (nI t), T, w') → RV l n d Q (upI (Flog (Rwk1 I D k a) th 2 (nI t)) 30 45 (nI D)) L := by
        intro w' hw' hE'
        refine hE' _ L ⟨⟨by rw [cu_30_45, co_log, hco1], hTT⟩, RA_mk (a + 1) (by simp [Flog, Rlog, Rwk1, rdI]) hw' (by show a + 1 ≤ 1000 + tr (Flog S th 2 (nI t)); rw [(tr_log S th 2 (nI t) (by omega)).1]; omega), by rw [← e51]; simp [Flog, Rlog, Rwk1, rdI]⟩ ?_ KL.rf (by simp [rdI])
        exact ((((KP.rf.up (Or.inl ⟨by decide, by decide, Nat.le_refl _⟩)).up (Or.inr ⟨rfl, by decide⟩)).tns (KP.nc (nc_log _ _ _ _)))).up (Or.inr ⟨rfl, by decide⟩)
      by_cases ha : 1000 ≤ a
      · have hL : Lord n Df G th nf fr K A B (S, T, w) = ((S, T, w), 1) := if_pos (show 1000 ≤ w by omega)
        rw [hL] at hE
        exact hfin w (by omega) hE
      · have hL : Lord n Df G th nf fr K A B (S, T, w) = ((S, T, w + 1), 1) := (if_neg (show ¬ 1000 ≤ w by omega)).trans (if_pos (hth9.resolve_left ha))
        rw [hL] at hE
        exact hfin (w + 1) (by omega) hE
    · have ha : ¬ 1000 ≤ a := fun q => hth9 (Or.inl q)
      have hfc : Fcan n S K A B := Decidable.byContradiction (fun q => hth9 (Or.inr q))
      rw [if_neg (fun q => hth9 (q.imp_right (fun z y => z (hcan.mpr y))))]
      have hwa : w = a := by omega
      have g1 := gc_w (T := T) hi (show w < 1000 by omega)
      have hR1 : RS th (S, T, w + 1) (Rwk1 I D k a) L := ⟨⟨hco1, hTT⟩, RA_mk (a + 1) (by simp [Rwk1, rdI]) (by show w + 1 = min (a + 1) 1000; omega) (by show a + 1 ≤ 1000 + tr S; omega), by rw [← e51]; simp [Rwk1, rdI]⟩
      have hT1 : TP D (Rwk1 I D k a) wh (nI t) (nI (k + 1)) mo tw := by
        obtain ⟨b1, b2, b3, b4, b5, b6⟩ := hT
        exact ⟨by simpa [Rwk1, rdI] using b1, by simpa [Rwk1, rdI] using b2, by simpa [Rwk1, rdI] using b3, by simp [Rwk1, rdI], by simpa [Rwk1, rdI] using b5, by simpa [Rwk1, rdI] using b6⟩
      have k1 : KP D I (Rwk1 I D k a) := (KP.rf.up (Or.inl ⟨by decide, by decide, Nat.le_refl _⟩)).up (Or.inr ⟨rfl, by decide⟩)
      have d1 : Rcnt (Rwk1 I D k a) 1 (D + 1) = nf := (Rcnt_wk1 I D k a 1 (D + 1)).trans c1
      have d4 : Rcnt (Rwk1 I D k a) 4 (D + 1) = fr := (Rcnt_wk1 I D k a 4 (D + 1)).trans c4
      have f51 : Rwk1 I D k a 30 51 = th := hR1.2.2
      have key : ∀ y : PX, gc n 0 (S, T, w) y → rEnd l n d Q th D I L (Lords n Df G th nf fr t m (k + 1) y) → rEnd l n d Q th (D + 1) (Rwk1 I D k a) L y := by
        intro y gy hEy I' L' r1 r2 r3 r4
        have hph := gy.2
        have y3 : y.1 30 3 = S 30 3 := gy.1.2.1.1.2.1
        have y204 : y.1 204 = S 204 := gy.1.2.1.1.2.2.2.2.1
        exact run_ords hth hrD hD hrG hG hn hg hnf hfr hd hDn hDb m (k + 1) y I' L' wh mo tw (by rw [y204]; omega) r1 gy.1.1 (hK.st gy.1.2.1.1) (by rw [y3]; exact ht) (by omega) (hT1.kp r2 r4) hwh ((Rcnt.kp 1 r2).trans d1) ((Rcnt.kp 4 r2).trans d4) (hEy.tns (k1.tns (r2.le (by omega))) r3)
      have hnw : ¬ 1000 ≤ w := by omega
      have gO1 := gO.1
      by_cases h8k : K = 8
      · subst h8k
        have hcp := isP_nbt hi (Fcan_8.mp hfc)
        have f229 : Rwk1 I D k a 229 (N A) = S 229 (N A) := by rw [← hco1, co_229]
        have f228 : Rwk1 I D k a 228 (N A) = S 228 (N A) := by rw [← hco1, co_228]
        rw [show Rdo n (Rwk1 I D k a) L (D + 1) 8 A B = (Rawait (Rwk1 I D k a) (D + 1) (N A), L) from by unfold Rdo; simp]
        have hL0 : Lord n Df G th nf fr 8 A B (S, T, w) = if S 229 (N A) ≠ 0 then ((S, T, w + 1), 0) else if 0 < nf ∨ 0 < fr ∨ S 228 (N A) = th then ((Flog S th 3 A, T, w + 1), 0) else ((S, T, w + 1), 2) := (if_neg hnw).trans ((if_neg (fun q => q hfc)).trans (if_pos rfl))
        rw [hL0] at hE gO1
        show RV l n d Q (Rawait (Rwk1 I D k a) (D + 1) (N A)) L
        rw [Rawait, f229, f228, f51]
        by_cases hdn : S 229 (N A) ≠ 0
        · rw [if_pos hdn] at hE gO1
          rw [if_pos hdn]
          exact key _ gO1 hE _ L hR1 KP.rf KL.rf hT1.1
        · rw [if_neg hdn] at hE gO1
          rw [if_neg hdn]
          by_cases hlg : 0 < nf ∨ 0 < fr ∨ S 228 (N A) = th
          · rw [if_pos hlg] at hE gO1
            rw [if_pos (show 1 < D + 1 ∨ S 228 (N A) = th from by
              rcases hlg with q | q | q
              · exact Or.inl (by have := hDn.mpr (Or.inl q); omega)
              · exact Or.inl (by have := hDn.mpr (Or.inr q); omega)
              · exact Or.inr q), ← hcp.1]
            exact (key _ gO1 hE).nc hR1 (nc_log _ _ _ _) ncL.rf (by rw [co_log, hco1]) hTT (by rw [(tr_log S th 3 A (by omega)).1]; exact Nat.le_succ _) hT1.1
          · rw [if_neg hlg] at hE
            have hD0 : D = 0 := by
              rcases Nat.eq_zero_or_pos D with q | q
              · exact q
              · exact absurd ((hDn.mp q).elim Or.inl (fun z => Or.inr (Or.inl z))) hlg
            rw [if_neg (show ¬ (1 < D + 1 ∨ S 228 (N A) = th) from fun q => q.elim (fun z => by omega) (fun z => hlg (Or.inr (Or.inr z))))]
            subst hD0
            have b47 := hT1.2.2.1
            have b48 := hT1.2.2.2.1
            rw [b47, b48, ← hcp.1]
            refine hE _ L ⟨⟨?_, hTT⟩, RA_mk (a + 1) (by simp [Rwk1, rdI]) (by show w + 1 = min (a + 1) 1000; omega) ?_, by rw [← e51]; simp [Rwk1, rdI]⟩ ?_ KL.rf (by simp [rdI]; rfl)
            · show co _ = Fblk S (N th) t (k + 1) A
              rw [cu_30_45, cu_217, cu_216, cu_215, cu_214, hco1]
              rfl
            · show a + 1 ≤ 1000 + tr (Fblk S (N th) t (k + 1) A)
              have : tr (Fblk S (N th) t (k + 1) A) = tr S := by simp [tr, Fblk, rdI]
              omega
            · exact k1.tns ((KP.nc ((((nc.rf.up (core_c (by decide) (by decide))).up (core_c (by decide) (by decide))).up (core_c (by decide) (by decide))).up (core_c (by decide) (by decide)))).up (Or.inr ⟨rfl, by decide⟩))
      · have hL : Lord n Df G th nf fr K A B (S, T, w) = (Lcarry n Df G th nf fr K A B (S, T, w + 1), 0) := (if_neg hnw).trans ((if_neg (fun q => q hfc)).trans (if_neg h8k))
        rw [hL] at hE gO1
        have g12 := g1.2
        exact run_carry hth hrD hD hrG hn hg hnf hfr hd (Nat.succ_pos D) (by omega) hR1 hi hK (by omega) hT1.1 d1 d4 K A B h8k hfc (key _ gO1 hE)
theorem fl_0 : (if (0 : Nat) = 2 then (1 : Int32) else 0) = 0 := rfl
theorem fl_2 : (if (2 : Nat) = 2 then (1 : Int32) else 0) = 1 := rfl
set_option maxHeartbeats 8000000 in
set_option maxRecDepth 100000 in
theorem run_go {l : Launch} {n : Nat} {th : Int32} {g : Nat} {Df : Nat → Nat → Nat → PX → PX} {G : Nat → Nat → Nat → Int32 → PX → PX} (hth : nbt th n) (hrD : rDo l n th g Df) (hD : hypD n Df) (hrG : rGo l n th g G) (hG : hypG n G) {Q : vq_R} {d D c nf fr : Nat} (hn : n < 2 ^ 31) (hg : 12 ≤ nf + 2 * fr + (g + 1)) (hnf : nf ≤ 4) (hfr : fr < 4) (hd : 20 ≤ d) (hDb : D ≤ 2 * nf + 2 * fr + 1) : ∀ (m j f : Nat) (ps : Int32) (x : PX) (I : MI) (L : ML), j + m = N (x.1 236 c) → RS th x I L → Inv n x.1 → HK x.1 → c < N (x.1 30 34) → Ph x + 2 * m + 2108 < 2 ^ 31 → TP D I 4 (nI c) (nI j) ps (if f = 2 then 1 else 0) → (f = 0 ∨ f = 2) → Rcnt I 1 D = nf → Rcnt I 4 D = fr → rEnd l n d Q th D I L (Lgo n Df G th nf fr c m j f ps x) → RV l n d Q I L
  | 0, j, f, ps, x, I, L, hjm, hR, hi, hK, hc, hb, hT, hf, c1, c4, hE => by
    obtain ⟨S, T, w⟩ := x
    have hI : Inv n I := hR.inv hi
    have hS : co I = S := hR.1.1
    have hTT : coL L = T := hR.1.2
    obtain ⟨a, a1, a2, a3⟩ := hR.2.1.2 (fun q => no_host (n := n) (q ▸ hth))
    change a ≤ 1000 + tr S at a3
    change Inv n S at hi
    change c < N (S 30 34) at hc
    change j + 0 = N (S 236 c) at hjm
    have hbt : tr S + 2108 < 2 ^ 31 := Ph_tr (x := (S, T, w)) (by omega)
    have e51 : I 30 51 = th := hR.2.2
    have e34 : I 30 34 = S 30 34 := by rw [← hS]; rfl
    have e236 : I 236 c = S 236 c := by rw [← hS, co_236]
    have etr : tr I = tr S := by rw [← hS]; rfl
    have h6 := (hi.2.2.2.2.1.2.2 c hc).2.1
    refine it_pass l n d I L D c j a hn hI hT.1 (by omega) hT.2.1 hT.2.2.1 (by rw [e34]; exact hc) hT.2.2.2.1 (by rw [e236]; omega) a1 (by omega) (by omega) (by omega) ?_
    rw [Rps, if_pos (by rw [e236, h6.1, ← hjm, Nat.add_zero]), e51, hT.2.2.2.2.1, hT.2.2.2.2.2]
    have hfin : ∀ k v, rEnd l n d Q th D I L (Flog S th k v, T, w) → RV l n d Q (upI (Flog I th k v) 30 45 (nI D)) L := by
      intro k v hE'
      have hnc := nc_log I th k v
      exact hE' _ L ((hR.nc hnc (by rw [co_log, hS]) hTT (by show tr S ≤ _; rw [(tr_log S th k v (by omega)).1]; omega)).fr (cu_30_45 _ _) (by simp [rdI]) (by simp [rdI])) ((KP.nc hnc).up (Or.inr ⟨rfl, by decide⟩)) KL.rf (by simp [rdI])
    simp only [Lgo] at hE
    rcases hf with rfl | rfl
    · rw [fl_0, if_neg (fun q => q rfl)]
      rw [if_pos rfl] at hE
      exact hfin _ _ hE
    · rw [fl_2, if_pos (by decide)]
      rw [if_neg (by decide)] at hE
      exact hfin _ _ hE
  | m + 1, j, f, ps, x, I, L, hjm, hR, hi, hK, hc, hb, hT, hf, c1, c4, hE => by
    obtain ⟨S, T, w⟩ := x
    have hw : w ≤ 1000 := hR.w
    have hI : Inv n I := hR.inv hi
    have hS : co I = S := hR.1.1
    have hTT : coL L = T := hR.1.2
    obtain ⟨a, a1, a2, a3⟩ := hR.2.1.2 (fun q => no_host (n := n) (q ▸ hth))
    change w = min a 1000 at a2
    change a ≤ 1000 + tr S at a3
    change Inv n S at hi
    change c < N (S 30 34) at hc
    change j + (m + 1) = N (S 236 c) at hjm
    change HK S at hK
    have hbt : tr S + (2 * (m + 1) + 2108) < 2 ^ 31 := Ph_tr (x := (S, T, w)) (by omega)
    have e51 : I 30 51 = th := hR.2.2
    have e34 : I 30 34 = S 30 34 := by rw [← hS]; rfl
    have e236 : I 236 c = S 236 c := by rw [← hS, co_236]
    have e237 : I 237 (6 * c + j) = S 237 (6 * c + j) := by rw [← hS, co_237]
    have e238 : I 238 (6 * c + j) = S 238 (6 * c + j) := by rw [← hS, co_238]
    have e239 : I 239 (6 * c + j) = S 239 (6 * c + j) := by rw [← hS, co_239]
    have etr : tr I = tr S := by rw [← hS]; rfl
    obtain ⟨h5, h6, h7⟩ := hi.2.2.2.2.1.2.2 c hc
    have h62 := h6.2
    have h16 := hi.2.2.2.2.1.1.2
    refine it_pass l n d I L D c j a hn hI hT.1 (by omega) hT.2.1 hT.2.2.1 (by rw [e34]; exact hc) hT.2.2.2.1 (by rw [e236]; omega) a1 (by omega) (by omega) (by omega) ?_
    have hI1 : Rps1 I D j = upI I 248 D (nI (j + 1)) := rfl
    have hI2 : Rps2 I D c j = Flog (Rps1 I D j) th 6 (1000000 * S 239 (6 * c + j) + ps) := by rw [Rps2, e51, e239, hT.2.2.2.2.1]
    rw [Rps, if_neg (by rw [e236, h6.1, nI_eq (by omega) (by omega)]; omega), e237, e238, e239, hT.2.2.2.2.1, hT.2.2.2.2.2]
    have hco1 : co (Rps1 I D j) = S := by rw [hI1, cu_248, hS]
    have hco2 : co (Rps2 I D c j) = Flog S th 6 (1000000 * S 239 (6 * c + j) + ps) := by rw [hI2, co_log, hco1]
    have k1 : KP D I (Rps1 I D j) := KP.rf.up (Or.inl ⟨by decide, by decide, Nat.le_refl _⟩)
    have k2 : KP (D + 1) (Rps1 I D j) (Rps2 I D c j) := by rw [hI2]; exact KP.nc (nc_log _ _ _ _)
    have hR1 : RS th (S, T, w) (Rps1 I D j) L := hR.fr (by rw [hco1, hS]) (by simp [Rps1, rdI]) (by simp [Rps1, rdI])
    have hR2 : RS th (Flog S th 6 (1000000 * S 239 (6 * c + j) + ps), T, w) (Rps2 I D c j) L := hR1.nc (by rw [hI2]; exact nc_log _ _ _ _) hco2 hTT (by show tr S ≤ _; rw [(tr_log S th 6 (1000000 * S 239 (6 * c + j) + ps) (by omega)).1]; omega)
    have hT1 : TP D (Rps1 I D j) 4 (nI c) (nI (j + 1)) ps (if f = 2 then 1 else 0) := by
      obtain ⟨b1, b2, b3, b4, b5, b6⟩ := hT
      exact ⟨by simpa [Rps1, rdI] using b1, by simpa [Rps1, rdI] using b2, by simpa [Rps1, rdI] using b3, by simp [Rps1, rdI], by simpa [Rps1, rdI] using b5, by simpa [Rps1, rdI] using b6⟩
    have hT2 : TP D (Rps2 I D c j) 4 (nI c) (nI (j + 1)) ps (if f = 2 then 1 else 0) := hT1.kp k2 (by rw [hI2, ← hT1.1]; simp [Flog, Rlog, rdI])
    have k2' : KP D I (Rps2 I D c j) := k1.tns (k2.le (by omega))
    have d1 : Rcnt (Rps2 I D c j) 1 D = nf := (Rcnt.kp 1 k2').trans c1
    have d4 : Rcnt (Rps2 I D c j) 4 D = fr := (Rcnt.kp 4 k2').trans c4
    have d1' : Rcnt (Rps2 I D c j) 1 (D + 1) = nf := by rw [hT2.cnt, d1, if_neg (by decide), Nat.add_zero]
    have d4' : Rcnt (Rps2 I D c j) 4 (D + 1) = fr + 1 := by rw [hT2.cnt, d4, if_pos rfl]
    have gl := gc_log (T := T) (w := w) th 6 (1000000 * S 239 (6 * c + j) + ps) hi hw (by omega)
    have key : ∀ (f' : Nat) (ps' : Int32) (y : PX) (c0 : Nat), gc n c0 (S, T, w) y → c0 ≤ 2 → (f' = 0 ∨ f' = 2) → rEnd l n d Q th D I L (Lgo n Df G th nf fr c m (j + 1) f' ps' y) → ∀ I' L', RS th y I' L' → TP D I' 4 (nI c) (nI (j + 1)) ps' (if f' = 2 then 1 else 0) → KP D I I' → KL L L' → RV l n d Q I' L' := by
      intro f' ps' y c0 gy hc0 hf' hEy I' L' r1 r2 r3 r4
      have hph := gy.2
      have y34 : y.1 30 34 = S 30 34 := gy.1.2.1.1.2.2.2.1
      have y236 : y.1 236 = S 236 := gy.1.2.1.1.2.2.2.2.2.2.2.2.2.2.1
      exact run_go hth hrD hD hrG hG hn hg hnf hfr hd hDb m (j + 1) f' ps' y I' L' (by rw [y236]; omega) r1 gy.1.1 (hK.st gy.1.2.1.1) (by rw [y34]; exact hc) (by omega) r2 hf' ((Rcnt.kp 1 r3).trans c1) ((Rcnt.kp 4 r3).trans c4) (hEy.tns r3 r4)
    simp only [Lgo] at hE
    have hpop : ∀ (y : PX) (I' : MI), RS th y I' L → KP D I I' → rEnd l n d Q th D I L y → RV l n d Q (upI I' 30 45 (nI D)) L := fun y I' r1 r2 r3 => r3 _ L (r1.fr (cu_30_45 _ _) (by simp [rdI]) (by simp [rdI])) (r2.up (Or.inr ⟨rfl, by decide⟩)) KL.rf (by simp [rdI])
    rcases hf with rfl | rfl
    · rw [fl_0] at hT1 hT2 ⊢
      rw [if_neg (fun q => q rfl)]
      rw [if_neg (by decide)] at hE
      by_cases q6 : S 237 (6 * c + j) = 6
      · rw [if_pos q6] at hE ⊢
        exact key 0 ps _ 0 (gc.rf hi hw) (by omega) (Or.inl rfl) hE _ L hR1 hT1 k1 KL.rf
      rw [if_neg q6] at hE ⊢
      by_cases q1 : S 237 (6 * c + j) = 1
      · rw [if_pos q1] at hE ⊢
        refine key 0 _ _ 1 gl (by omega) (Or.inl rfl) hE _ L (hR2.fr (cu_249 _ _ _) (by simp [rdI]) (by simp [rdI])) ?_ (k2'.up (Or.inl ⟨by decide, by decide, Nat.le_refl _⟩)) KL.rf
        obtain ⟨b1, b2, b3, b4, b5, b6⟩ := hT2
        exact ⟨by simpa [rdI] using b1, by simpa [rdI] using b2, by simpa [rdI] using b3, by simpa [rdI] using b4, by simp [rdI], by simpa [rdI] using b6⟩
      rw [if_neg q1] at hE ⊢
      by_cases q2 : S 237 (6 * c + j) = 2
      · rw [if_pos q2] at hE ⊢
        by_cases qm : ps &&& 1 = 1
        · rw [if_pos qm] at hE ⊢
          exact hpop _ _ hR2 k2' hE
        · rw [if_neg qm] at hE ⊢
          exact key 0 _ _ 1 gl (by omega) (Or.inl rfl) hE _ L hR2 hT2 k2' KL.rf
      rw [if_neg q2] at hE ⊢
      by_cases q3 : S 237 (6 * c + j) = 3
      · rw [if_pos q3] at hE ⊢
        have hph := gl.2
        have l34 : Flog S th 6 (1000000 * S 239 (6 * c + j) + ps) 30 34 = S 30 34 := gl.1.2.1.1.2.2.2.1
        have gE := gl.tr (gc_echo hG th nf (fr + 1) c ps _ gl.1.1 hw (by show c < N (Flog S th 6 (1000000 * S 239 (6 * c + j) + ps) 30 34); rw [l34]; exact hc) (by omega))
        have hpe : N (nI c ^^^ 1) = c ^^^ 1 := by rw [peer_nI c (by omega), N_nI]; have := peer_lt c (by omega) (N (S 30 34)) (by omega) hi.2.2.2.2.1.2.1 hc; omega
        by_cases qa : a < 1000
        · rw [if_pos qa]
          have hwl : w < 1000 := by omega
          have eL : Lecho G th nf (fr + 1) c ps (Flog S th 6 (1000000 * S 239 (6 * c + j) + ps), T, w) = Lsend G th nf (fr + 1) (c ^^^ 1) ps (Flog S th 6 (1000000 * S 239 (6 * c + j) + ps), T, w + 1) := by
            rw [Lecho, if_pos hwl, hpe]
          rw [eL] at gE hE
          have hR3 : RS th (Flog S th 6 (1000000 * S 239 (6 * c + j) + ps), T, w + 1) (upI (Rps2 I D c j) 30 52 (nI (a + 1))) L := ⟨⟨by rw [cu_30_52]; exact hco2, hTT⟩, RA_mk (a + 1) (by simp [rdI]) (by show w + 1 = min (a + 1) 1000; omega) (by show a + 1 ≤ 1000 + _; omega), by rw [← hR2.2.2]; simp [rdI]⟩
          have k3 : KP (D + 1) (Rps2 I D c j) (upI (Rps2 I D c j) 30 52 (nI (a + 1))) := KP.rf.up (Or.inr ⟨rfl, by decide⟩)
          have hT3 : TP D (upI (Rps2 I D c j) 30 52 (nI (a + 1))) 4 (nI c) (nI (j + 1)) ps 0 := hT2.kp k3 (by rw [← hT2.1]; simp [rdI])
          have gw := gc_w (T := T) (w := w) gl.1.1 hwl
          have gw2 : Ph (Flog S th 6 (1000000 * S 239 (6 * c + j) + ps), T, w + 1) + 40 = Ph (Flog S th 6 (1000000 * S 239 (6 * c + j) + ps), T, w) := gw.2
          have hpl : c ^^^ 1 < N (S 30 34) := peer_lt c (by omega) (N (S 30 34)) (by omega) hi.2.2.2.2.1.2.1 hc
          refine run_send (fun _ => hrG) (by omega) hnf hd (by omega) hR3 gl.1.1 (hK.st gl.1.2.1.1) (by omega) hT3.1 ((Rcnt.kp 1 k3).trans d1') ((Rcnt.kp 4 k3).trans d4') (by rw [l34]; exact hpl) ?_
          intro I' L' r1 r2 r3 r4
          exact key 0 ps _ (1 + 0) gE (by omega) (Or.inl rfl) hE I' L' r1 (hT3.kp r2 r4) (k2'.tns ((k3.tns r2).le (by omega))) r3
        · rw [if_neg qa]
          have hwl : ¬ w < 1000 := by omega
          have eL : Lecho G th nf (fr + 1) c ps (Flog S th 6 (1000000 * S 239 (6 * c + j) + ps), T, w) = (Flog S th 6 (1000000 * S 239 (6 * c + j) + ps), T, w) := by
            rw [Lecho, if_neg hwl]
          rw [eL] at gE hE
          exact key 0 _ _ 1 gl (by omega) (Or.inl rfl) hE _ L hR2 hT2 k2' KL.rf
      rw [if_neg q3] at hE ⊢
      by_cases q4 : S 237 (6 * c + j) = 4
      · rw [if_pos q4] at hE ⊢
        have ht := h7 j (by omega) q4
        have hph := gl.2
        have l3 := gl.1.2.1.1.2.1
        have gE := gl.tr (hD nf (fr + 1) (N (S 238 (6 * c + j))) _ gl.1.1 hw (by rw [l3]; exact ht.2) (by omega))
        have k3 : KP (D + 1) (Rps2 I D c j) (Rpush (Rps2 I D c j) (D + 1) 2 (S 238 (6 * c + j)) 0) := KP.push
        have hTp : TP (D + 1) (Rpush (Rps2 I D c j) (D + 1) 2 (S 238 (6 * c + j)) 0) 2 (nI (N (S 238 (6 * c + j)))) 0 0 0 := by rw [← ht.1]; exact TP.push
        refine hrD d nf (fr + 1) (N (S 238 (6 * c + j))) (D + 1) _ _ L Q 2 0 0 hd (by omega) hnf (by omega) hR2.push gl.1.1 (hK.st gl.1.2.1.1) (by rw [l3]; exact ht.2) (by omega) hTp (Or.inr rfl) (by omega) (by omega) (Or.inr (by omega)) ?_ ?_ ?_
        · rw [hTp.cnt, Rcnt.kp 1 k3, d1', if_neg (by decide), Nat.add_zero]
        · rw [hTp.cnt, Rcnt.kp 4 k3, d4', if_neg (by decide), Nat.add_zero]
        · intro I' L' r1 r2 r3 r4
          exact key 0 ps _ (1 + 1) gE (by omega) (Or.inl rfl) hE I' L' r1 (hT2.kp (k3.tns r2) r4) (k2'.tns ((k3.tns r2).le (by omega))) r3
      rw [if_neg q4] at hE ⊢
      by_cases q5 : S 237 (6 * c + j) = 5
      · rw [if_pos q5] at hE ⊢
        by_cases qm : ps - ps / 3 * 3 = 0
        · rw [if_pos qm] at hE ⊢
          refine key 2 _ _ 1 gl (by omega) (Or.inr rfl) hE _ L (hR2.fr (cu_250 _ _ _) (by simp [rdI]) (by simp [rdI])) ?_ (k2'.up (Or.inl ⟨by decide, by decide, Nat.le_refl _⟩)) KL.rf
          obtain ⟨b1, b2, b3, b4, b5, b6⟩ := hT2
          exact ⟨by simpa [rdI] using b1, by simpa [rdI] using b2, by simpa [rdI] using b3, by simpa [rdI] using b4, by simpa [rdI] using b5, by simp [rdI]⟩
        · rw [if_neg qm] at hE ⊢
          exact key 0 _ _ 1 gl (by omega) (Or.inl rfl) hE _ L hR2 hT2 k2' KL.rf
      rw [if_neg q5] at hE ⊢
      exact key 0 _ _ 1 gl (by omega) (Or.inl rfl) hE _ L hR2 hT2 k2' KL.rf
    · rw [fl_2] at hT1 ⊢
      rw [if_pos (by decide)]
      rw [if_pos rfl] at hE
      by_cases q6 : S 237 (6 * c + j) = 6
      · rw [if_pos q6] at hE ⊢
        exact hpop _ _ hR1 k1 hE
      · rw [if_neg q6] at hE ⊢
        exact key 2 ps _ 0 (gc.rf hi hw) (by omega) (Or.inr rfl) hE _ L hR1 hT1 k1 KL.rf
theorem rlev {l : Launch} {n : Nat} {th : Int32} (hth : nbt th n) (hn : n < 2 ^ 31) : ∀ g, rDo l n th g (Lv n th g).1 ∧ rGo l n th g (Lv n th g).2
  | 0 => ⟨fun d nf fr t D x I L Q wh mo tw h1 h2 h3 h4 => by omega, fun d nf fr c D m x I L Q h1 h2 h3 h4 => by omega⟩
  | g + 1 => by
    obtain ⟨h1, h2⟩ := rlev (l := l) hth hn g
    obtain ⟨h3, h4⟩ := lev_ok hth g
    refine ⟨fun d nf fr t D x I L Q wh mo tw a1 a2 a3 a4 a5 a6 a7 a8 a9 b1 b2 b3 b4 b5 b6 b7 b8 => ?_, fun d nf fr c D m x I L Q a1 a2 a3 a4 a5 a6 a7 a8 a9 b1 b2 b3 b4 b5 => ?_⟩
    · exact run_ords hth h1 h3 h2 h4 hn a2 a3 a4 a1 ⟨fun _ => b5, fun _ => b3⟩ b4 (N (x.1 204 t)) 0 x I L wh mo tw (by omega) a5 a6 a7 a8 a9 b1 (by rcases b2 with rfl | rfl <;> exact ⟨by decide, by decide⟩) b6 b7 b8
    · have h6 := (a6.2.2.2.2.1.2.2 c a8).2.1.2
      exact run_go hth h1 h3 h2 h4 hn a2 a3 a4 a1 b2 (N (x.1 236 c)) 0 0 m x I L (by omega) a5 a6 a7 a8 (by omega) b1 (Or.inl rfl) b3 b4 b5
