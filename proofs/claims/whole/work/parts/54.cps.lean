/-! ===== the reference's run: a frame comes to its end ===== -/
def RA (th : Int32) (x : PX) (I : MI) : Prop := x.2.2 ≤ 1000 ∧ (th ≠ -1 → ∃ a, I 30 52 = nI a ∧ x.2.2 = min a 1000 ∧ a ≤ 1000 + tr x.1)
theorem RA_mk {th : Int32} {x : PX} {I : MI} (a : Nat) (h1 : I 30 52 = nI a) (h2 : x.2.2 = min a 1000) (h3 : a ≤ 1000 + tr x.1) : RA th x I := ⟨by omega, fun _ => ⟨a, h1, h2, h3⟩⟩
def RS (th : Int32) (x : PX) (I : MI) (L : ML) : Prop := (co I = x.1 ∧ coL L = x.2.1) ∧ RA th x I ∧ I 30 51 = th
abbrev refc (i : Nat) : Prop := i = 30 ∨ (200 ≤ i ∧ i < 300)
/-- the frames below D, what isn't the reference's, and thrown are the same -/
def KP (D : Nat) (I I' : MI) : Prop := (∀ c, 246 ≤ c → c ≤ 250 → ∀ j, j < D → I' c j = I c j) ∧ (∀ i, ¬ refc i → I' i = I i) ∧ I' 30 0 = I 30 0
def KL (L L' : ML) : Prop := ∀ i, ¬ refc i → L' i = L i
def HK (S : MI) : Prop := ∀ j, 0 ≤ S 205 j ∧ S 205 j ≤ 13
theorem KP.rf {D : Nat} {I : MI} : KP D I I := ⟨fun _ _ _ _ _ => rfl, fun _ _ => rfl, rfl⟩
theorem KP.tns {D : Nat} {I I1 I2 : MI} (h : KP D I I1) (k : KP D I1 I2) : KP D I I2 := ⟨fun c h1 h2 j hj => (k.1 c h1 h2 j hj).trans (h.1 c h1 h2 j hj), fun i hi => (k.2.1 i hi).trans (h.2.1 i hi), k.2.2.trans h.2.2⟩
theorem KP.le {D D' : Nat} {I I1 : MI} (h : KP D I I1) (hd : D' ≤ D) : KP D' I I1 := ⟨fun c h1 h2 j hj => h.1 c h1 h2 j (by omega), h.2⟩
theorem KP.nc {D : Nat} {I I' : MI} (h : nc I I') : KP D I I' := ⟨fun c h1 h2 j _ => nc_246 h c j h1 h2, fun i hi => funext fun j => h i j (fun q => hi (by unfold core at q; unfold refc; omega)), h 30 0 (by decide)⟩
theorem KP.up {D c j : Nat} {v : Int32} {I I' : MI} (h : KP D I I') (hc : (246 ≤ c ∧ c ≤ 250 ∧ D ≤ j) ∨ (c = 30 ∧ j ≠ 0)) : KP D I (upI I' c j v) := by
  refine ⟨fun c' h1 h2 j' hj => ?_, fun i hi => ?_, ?_⟩
  · rw [rdI, if_neg (by omega)]
    exact h.1 c' h1 h2 j' hj
  · rw [upI_ne (fun e => hi (by unfold refc; omega))]
    exact h.2.1 i hi
  · rw [rdI, if_neg (by omega)]
    exact h.2.2
theorem KP.push {D : Nat} {a b c : Int32} {I : MI} : KP D I (Rpush I D a b c) := by
  unfold Rpush
  exact (((((KP.rf.up (Or.inl ⟨by decide, by decide, Nat.le_refl _⟩)).up (Or.inl ⟨by decide, by decide, Nat.le_refl _⟩)).up (Or.inl ⟨by decide, by decide, Nat.le_refl _⟩)).up (Or.inl ⟨by decide, by decide, Nat.le_refl _⟩)).up (Or.inl ⟨by decide, by decide, Nat.le_refl _⟩)).up (Or.inr ⟨rfl, by decide⟩)
theorem KL.rf {L : ML} : KL L L := fun _ _ => rfl
theorem KL.tns {L L1 L2 : ML} (h : KL L L1) (k : KL L1 L2) : KL L L2 := fun i hi => (k i hi).trans (h i hi)
theorem KL.nc {L L' : ML} (h : ncL L L') : KL L L' := fun i hi => funext fun j => h i j (fun q => hi (by unfold core at q; unfold refc; omega))
theorem Rcnt.kp {D : Nat} {I I' : MI} (w : Int32) (h : KP D I I') : Rcnt I' w D = Rcnt I w D := Rcnt_cong w D (fun j hj => h.1 246 (by decide) (by decide) j hj)
/-- the top frame -/
def TP (D : Nat) (I : MI) (wh o a mo tw : Int32) : Prop := I 30 45 = nI (D + 1) ∧ I 246 D = wh ∧ I 247 D = o ∧ I 248 D = a ∧ I 249 D = mo ∧ I 250 D = tw
theorem TP.kp {D : Nat} {I I' : MI} {wh o a mo tw : Int32} (h : TP D I wh o a mo tw) (k : KP (D + 1) I I') (h45 : I' 30 45 = nI (D + 1)) : TP D I' wh o a mo tw :=
  ⟨h45, (k.1 246 (by decide) (by decide) D (by omega)).trans h.2.1, (k.1 247 (by decide) (by decide) D (by omega)).trans h.2.2.1, (k.1 248 (by decide) (by decide) D (by omega)).trans h.2.2.2.1, (k.1 249 (by decide) (by decide) D (by omega)).trans h.2.2.2.2.1, (k.1 250 (by decide) (by decide) D (by omega)).trans h.2.2.2.2.2⟩
theorem TP.push {D : Nat} {I : MI} {a b c : Int32} : TP D (Rpush I D a b c) a b 0 c 0 := by simp [TP, Rpush, rdI]
theorem TP.cnt {D : Nat} {I : MI} {wh o a mo tw : Int32} (h : TP D I wh o a mo tw) (w : Int32) : Rcnt I w (D + 1) = Rcnt I w D + (if wh = w then 1 else 0) := by
  simp only [Rcnt, h.2.1]
theorem RS.inv {n : Nat} {th : Int32} {x : PX} {I : MI} {L : ML} (h : RS th x I L) (hi : Inv n x.1) : Inv n I := by rw [← Inv_co, h.1.1]; exact hi
theorem RS.nc {th : Int32} {x : PX} {I I' : MI} {L L' : ML} {S' : MI} {T' : ML} (h : RS th x I L) (h1 : nc I I') (h3 : co I' = S') (h4 : coL L' = T') (ht : tr x.1 ≤ tr S') : RS th (S', T', x.2.2) I' L' := by
  refine ⟨⟨h3, h4⟩, ⟨h.2.1.1, fun q => ?_⟩, (h1 30 51 (by decide)).trans h.2.2⟩
  obtain ⟨a, a1, a2, a3⟩ := h.2.1.2 q
  exact ⟨a, (h1 30 52 (by decide)).trans a1, a2, by show a ≤ 1000 + tr S'; omega⟩
theorem RS.fr {th : Int32} {x : PX} {I I' : MI} {L : ML} (h : RS th x I L) (hco : co I' = co I) (h52 : I' 30 52 = I 30 52) (h51 : I' 30 51 = I 30 51) : RS th x I' L := by
  refine ⟨⟨hco.trans h.1.1, h.1.2⟩, ⟨h.2.1.1, fun q => ?_⟩, h51.trans h.2.2⟩
  obtain ⟨a, a1, a2, a3⟩ := h.2.1.2 q
  exact ⟨a, h52.trans a1, a2, a3⟩
theorem RS.w {th : Int32} {x : PX} {I : MI} {L : ML} (h : RS th x I L) : x.2.2 ≤ 1000 := h.2.1.1
theorem RS.push {th : Int32} {x : PX} {I : MI} {L : ML} {D : Nat} {a b c : Int32} (h : RS th x I L) : RS th x (Rpush I D a b c) L := h.fr (co_push _ _ _ _ _) (by simp [Rpush, rdI]) (by simp [Rpush, rdI])
def rEnd (l : Launch) (n d : Nat) (Q : vq_R) (th : Int32) (D : Nat) (I : MI) (L : ML) (y : PX) : Prop := ∀ I' L', RS th y I' L' → KP D I I' → KL L L' → I' 30 45 = nI D → RV l n d Q I' L'
theorem rEnd.tns {l : Launch} {n d : Nat} {Q : vq_R} {th : Int32} {D : Nat} {I I1 : MI} {L L1 : ML} {y : PX} (h : rEnd l n d Q th D I L y) (k : KP D I I1) (k2 : KL L L1) : rEnd l n d Q th D I1 L1 y := fun I' L' a1 a2 a3 a4 => h I' L' a1 (k.tns a2) (k2.tns a3) a4
theorem rEnd.nc {l : Launch} {n d : Nat} {Q : vq_R} {th : Int32} {D : Nat} {I I2 S0 S' : MI} {L L2 T0 T' : ML} {w : Nat} (h : rEnd l n d Q th D I L (S', T', w)) (hR : RS th (S0, T0, w) I L) (h1 : nc I I2) (h2 : ncL L L2) (h3 : co I2 = S') (h4 : coL L2 = T') (ht : tr S0 ≤ tr S') (h45 : I 30 45 = nI D) : RV l n d Q I2 L2 :=
  h I2 L2 (hR.nc h1 h3 h4 ht) (KP.nc h1) (KL.nc h2) ((h1 30 45 (by decide)).trans h45)
def rDo (l : Launch) (n : Nat) (th : Int32) (g : Nat) (Df : Nat → Nat → Nat → PX → PX) : Prop := ∀ (d nf fr t D : Nat) (x : PX) (I : MI) (L : ML) (Q : vq_R) (wh mo tw : Int32), 20 ≤ d → 13 ≤ nf + 2 * fr + g → nf ≤ 4 → fr ≤ 4 → RS th x I L → Inv n x.1 → HK x.1 → t < N (x.1 30 3) → Ph x + 2100 < 2 ^ 31 → TP D I wh (nI t) 0 mo tw → (wh = 1 ∨ wh = 2) → 0 < D → D ≤ 2 * nf + 2 * fr → (0 < nf ∨ 0 < fr) → Rcnt I 1 (D + 1) = nf → Rcnt I 4 (D + 1) = fr → rEnd l n d Q th D I L (Df nf fr t x) → RV l n d Q I L
def rGo (l : Launch) (n : Nat) (th : Int32) (g : Nat) (G : Nat → Nat → Nat → Int32 → PX → PX) : Prop := ∀ (d nf fr c D : Nat) (m : Int32) (x : PX) (I : MI) (L : ML) (Q : vq_R), 20 ≤ d → 12 ≤ nf + 2 * fr + g → nf ≤ 4 → fr < 4 → RS th x I L → Inv n x.1 → HK x.1 → c < N (x.1 30 34) → Ph x + 2120 < 2 ^ 31 → TP D I 4 (nI c) 0 m 0 → D ≤ 2 * nf + 2 * fr + 1 → Rcnt I 1 D = nf → Rcnt I 4 D = fr → rEnd l n d Q th D I L (G nf fr c m x) → RV l n d Q I L
theorem tr_becq (S : MI) (i : Nat) (s : Int32) (h : tr S + 1 < 2 ^ 31) : tr (Fbec S i s) = tr S + 1 := by
  have e : tr (upI S 208 i s) = tr S := by simp [tr, rdI]
  have := (tr_log (upI S 208 i s) (nI i) 7 s (by rw [e]; exact h)).1
  rw [e] at this
  exact this
theorem tr_put (S : MI) (th : Int32) (i : Nat) (k x m v : Int32) (h : tr S + 1 < 2 ^ 31) : tr S ≤ tr (Fput S th i k x m v) := by
  have e : tr (Fenq0 S i k x m) = tr S := by simp [tr, Fenq0, rdI]
  unfold Fput Fenq
  split
  · rw [(tr_log _ _ _ _ h).1]
    omega
  · split
    · rw [tr_becq _ _ _ (by rw [e]; exact h), e]
      omega
    · rw [e]
      exact Nat.le_refl _
theorem tr_sch (S : MI) (th : Int32) (i : Nat) (t : Int32) (h : tr S + 2 < 2 ^ 31) : tr S ≤ tr (Fsch S th i t) := by
  have e : tr (Fsch0 S i t) = tr S := by simp [tr, Fsch0, rdI]
  unfold Fsch
  split
  · rw [(tr_log _ _ _ _ (by omega)).1]
    omega
  · split
    · have e2 := tr_becq (Fsch0 S i t) i 2 (by rw [e]; omega)
      rw [(tr_log _ _ _ _ (by rw [e2, e]; omega)).1, e2, e]
      omega
    · rw [(tr_log _ _ _ _ (by rw [e]; omega)).1, e]
      omega
theorem tr_shut (S : MI) : ∀ k, tr S + k < 2 ^ 31 → tr S ≤ tr (Fshut S k) ∧ tr (Fshut S k) ≤ tr S + k
  | 0, _ => ⟨Nat.le_refl _, Nat.le_refl _⟩
  | k + 1, h => by
    have ih := tr_shut S k (by omega)
    simp only [Fshut]
    split
    · rw [tr_becq _ _ _ (by omega)]
      omega
    · omega
theorem HK.st {x y : MI} (h : HK x) (hs : St x y) : HK y := fun j => by rw [hs.2.2.2.2.2.1]; exact h j
set_option maxHeartbeats 4000000 in
set_option maxRecDepth 100000 in
theorem run_tells {l : Launch} {n : Nat} {th : Int32} {g : Nat} {Df : Nat → Nat → Nat → PX → PX} (hrD : nbt th n → rDo l n th g Df) (hD : nbt th n → hypD n Df) {Q : vq_R} {d D p k nf fr : Nat} (hn : n < 2 ^ 31) (hg : 13 ≤ nf + 2 * fr + (g + 1)) (hnf : nf ≤ 4) (hfr : fr ≤ 4) (hd : 20 ≤ d) (hk6 : k ≤ 6) (hDb : D ≤ 2 * nf + 2 * fr + 1) : ∀ (m j : Nat) (x : PX) (I : MI) (L : ML) (tw : Int32), j + m = k → RS th x I L → Inv n x.1 → HK x.1 → p < N (x.1 30 27) → x.1 229 p ≠ 0 → (∀ i, i < k → nbt (x.1 233 (6 * p + i)) (N (x.1 30 3))) → Ph x + 2 * m + 2110 < 2 ^ 31 → TP D I 3 (nI p) (nI j) (nI k) tw → Rcnt I 1 D = nf → Rcnt I 4 D = fr → rEnd l n d Q th D I L (Ltells Df th nf fr p k m x) → RV l n d Q I L
  | 0, j, x, I, L, tw, hjk, hR, hi, hK, hp, hdn, hl, hb, hT, c1, c4, hE => by
    refine it_npop l n d I L D hn hT.1 (by omega) hT.2.1 (by rw [hT.2.2.2.1, hT.2.2.2.2.1, show j = k by omega]) ?_
    exact hE _ L (hR.fr (cu_30_45 _ _) (by simp [rdI]) (by simp [rdI])) (KP.rf.up (Or.inr ⟨rfl, by decide⟩)) KL.rf (by simp [rdI])
  | m + 1, j, x, I, L, tw, hjk, hR, hi, hK, hp, hdn, hl, hb, hT, c1, c4, hE => by
    obtain ⟨S, T, w⟩ := x
    have hw : w ≤ 1000 := hR.w
    have hI : Inv n I := hR.inv hi
    have hS : co I = S := hR.1.1
    change Inv n S at hi
    change p < N (S 30 27) at hp
    change S 229 p ≠ 0 at hdn
    change HK S at hK
    have hbt : tr S + (2 * (m + 1) + 2110) < 2 ^ 31 := Ph_tr (x := (S, T, w)) (by omega)
    have hbt2 : tr I = tr S := by rw [← hS]; rfl
    have hj : nbt (S 233 (6 * p + j)) (N (S 30 3)) := hl j (by omega)
    have e233 : I 233 (6 * p + j) = nI (N (S 233 (6 * p + j))) := by rw [← hj.1, ← hS, co_233]
    have e27 : I 30 27 = S 30 27 := by rw [← hS]; rfl
    refine it_notify l n d I L D p j k hn hI hT.1 (by omega) hT.2.1 hT.2.2.1 (by rw [e27]; exact hp) hT.2.2.2.1 hT.2.2.2.2.1 (by omega) hk6 (by omega) (by omega) ?_
    rw [e233]
    simp only [Ltells, show k - (m + 1) = j by omega] at hE
    obtain ⟨t, et⟩ : ∃ t, N (S 233 (6 * p + j)) = t := ⟨_, rfl⟩
    rw [et] at hE ⊢
    obtain ⟨I1, hI1⟩ : ∃ I1, I1 = upI I 248 D (nI (j + 1)) := ⟨_, rfl⟩
    rw [← hI1]
    have hco1 : co I1 = S := by rw [hI1, cu_248, hS]
    have hK1 : KP D I I1 := by rw [hI1]; exact KP.rf.up (Or.inl ⟨by decide, by decide, Nat.le_refl _⟩)
    have hR1 : RS th (S, T, w) I1 L := hR.fr (by rw [hco1, hS]) (by rw [hI1]; simp [rdI]) (by rw [hI1]; simp [rdI])
    have hT1 : TP D I1 3 (nI p) (nI (j + 1)) (nI k) tw := by
      obtain ⟨a1, a2, a3, a4, a5, a6⟩ := hT
      subst hI1
      exact ⟨by simpa [rdI] using a1, by simpa [rdI] using a2, by simpa [rdI] using a3, by simp [rdI], by simpa [rdI] using a5, by simpa [rdI] using a6⟩
    have d1 : Rcnt I1 1 D = nf := (Rcnt.kp 1 hK1).trans c1
    have d4 : Rcnt I1 4 D = fr := (Rcnt.kp 4 hK1).trans c4
    have d1' : Rcnt I1 1 (D + 1) = nf := by rw [hT1.cnt, d1, if_neg (by decide), Nat.add_zero]
    have d4' : Rcnt I1 4 (D + 1) = fr := by rw [hT1.cnt, d4, if_neg (by decide), Nat.add_zero]
    have e228 : I1 228 p = S 228 p := by rw [← hco1, co_228]
    have e51 : I1 30 51 = th := hR1.2.2
    rw [Rtell, e51, e228, d1']
    -- what goes on behind it
    have key : ∀ y : PX, gc n 2 (S, T, w) y → Ltell Df th nf fr p t (S, T, w) = y → ∀ I' L', RS th y I' L' → KP (D + 1) I1 I' → KL L L' → I' 30 45 = nI (D + 1) → RV l n d Q I' L' := by
      intro y gy ey I' L' r1 r2 r3 r4
      rw [ey] at hE
      have hph := gy.2
      have e3 : y.1 30 3 = S 30 3 := gy.1.2.1.1.2.1
      have e27' : y.1 30 27 = S 30 27 := gy.1.2.1.1.2.2.1
      have hdn' := gy.1.2.1.2.1 p hdn
      exact run_tells hrD hD hn hg hnf hfr hd hk6 hDb m (j + 1) y I' L' tw (by omega) r1 gy.1.1 (hK.st gy.1.2.1.1) (by rw [e27']; exact hp) hdn'.1 (fun i hi => by rw [hdn'.2 i (by omega), e3]; exact hl i hi) (by omega) (hT1.kp r2 r4) ((Rcnt.kp 1 (r2.le (by omega))).trans d1) ((Rcnt.kp 4 (r2.le (by omega))).trans d4) (hE.tns (hK1.tns (r2.le (by omega))) r3)
    have ht3 : t < N (S 30 3) := by rw [← et]; exact hj.2
    by_cases hcn : S 228 p = th ∧ nf < 4
    · rw [if_pos hcn]
      have hnb : nbt th n := by rw [← hcn.1]; exact (hi.2.2.2.1.2 p hp).1
      have gt := gc_tell (hD hnb) th nf fr p t (S, T, w) hi hw hp ht3 (by omega)
      have eL : Ltell Df th nf fr p t (S, T, w) = Df (nf + 1) fr t (Flog S th 5 (nI t), T, w) := by rw [Ltell, if_pos hcn]
      have hlg := gc_log (T := T) (w := w) th 5 (nI t) hi hw (by omega)
      have hlp := hlg.2
      have e3 : (Flog S th 5 (nI t)) 30 3 = S 30 3 := hlg.1.2.1.1.2.1
      have hnc := nc_log I1 th 5 (nI t)
      have hR2 : RS th (Flog S th 5 (nI t), T, w) (Flog I1 th 5 (nI t)) L := hR1.nc hnc (by rw [co_log, hco1]) hR1.1.2 (by rw [(tr_log S th 5 (nI t) (by omega)).1]; exact Nat.le_succ _)
      have k1 : KP (D + 1) I1 (Rpush (Flog I1 th 5 (nI t)) (D + 1) 1 (nI t) 0) := (KP.nc hnc).tns KP.push
      rw [eL] at gt key
      have hTp : TP (D + 1) (Rpush (Flog I1 th 5 (nI t)) (D + 1) 1 (nI t) 0) 1 (nI t) 0 0 0 := TP.push
      refine hrD hnb d (nf + 1) fr t (D + 1) (Flog S th 5 (nI t), T, w) _ L Q 1 0 0 hd (by omega) (by omega) hfr hR2.push hlg.1.1 (hK.st hlg.1.2.1.1) (by show t < N (Flog S th 5 (nI t) 30 3); rw [e3]; exact ht3) (by omega) hTp (Or.inl rfl) (by omega) (by omega) (Or.inl (by omega)) ?_ ?_ ?_
      · rw [hTp.cnt, Rcnt.kp 1 k1, d1', if_pos rfl]
      · rw [hTp.cnt, Rcnt.kp 4 k1, d4', if_neg (by decide), Nat.add_zero]
      · intro I' L' r1 r2 r3 r4
        exact key _ gt rfl I' L' r1 (k1.tns r2) r3 r4
    · rw [if_neg hcn]
      have eL : Ltell Df th nf fr p t (S, T, w) = (Fput S th (N (S 228 p)) 1 (nI t) 0 (nI t), T, w) := by rw [Ltell, if_neg hcn]
      have hx := (hi.2.2.2.1.2 p hp).1
      have gt := (gc_put (T := T) (w := w) (i := N (S 228 p)) (k := 1) (x := nI t) th 0 (nI t) hi hw (by omega) hx.2 (Or.inr ⟨Or.inr rfl, by unfold nbt; have := hi.2.2.1.1.2; rw [N_nI (by omega)]; exact ⟨rfl, ht3⟩⟩)).up (show 1 ≤ 2 by omega)
      have hnc := nc_put I1 th (N (S 228 p)) 1 (nI t) 0 (nI t)
      exact key _ gt eL _ L (hR1.nc hnc (by rw [co_put, hco1]) hR1.1.2 (tr_put S th (N (S 228 p)) 1 (nI t) 0 (nI t) (by omega))) (KP.nc hnc) KL.rf ((hnc 30 45 (by decide)).trans hT1.1)
