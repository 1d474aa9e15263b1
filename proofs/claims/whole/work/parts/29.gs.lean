/-! ===== what every run keeps, and how far the trace may grow ===== -/
/-- what no run changes -/
def St (x y : MI) : Prop := y 30 1 = x 30 1 ∧ y 30 3 = x 30 3 ∧ y 30 27 = x 30 27 ∧ y 30 34 = x 30 34 ∧ y 204 = x 204 ∧ y 205 = x 205 ∧ y 206 = x 206 ∧ y 207 = x 207 ∧ y 228 = x 228 ∧ y 235 = x 235 ∧ y 236 = x 236 ∧ y 237 = x 237 ∧ y 238 = x 238 ∧ y 239 = x 239
theorem St.rf {x : MI} : St x x := ⟨rfl, rfl, rfl, rfl, rfl, rfl, rfl, rfl, rfl, rfl, rfl, rfl, rfl, rfl⟩
theorem St.tr {x y z : MI} (h : St x y) (k : St y z) : St x z := by
  obtain ⟨a1, a2, a3, a4, a5, a6, a7, a8, a9, b1, b2, b3, b4, b5⟩ := h
  obtain ⟨c1, c2, c3, c4, c5, c6, c7, c8, c9, d1, d2, d3, d4, d5⟩ := k
  exact ⟨c1.trans a1, c2.trans a2, c3.trans a3, c4.trans a4, c5.trans a5, c6.trans a6, c7.trans a7, c8.trans a8, c9.trans a9, d1.trans b1, d2.trans b2, d3.trans b3, d4.trans b4, d5.trans b5⟩
/-- a blocked loop's next order is one of its task's, or behind the last -/
def obk (x : MI) (i : Nat) : Prop := x 214 i = 1 → N (x 216 i) ≤ N (x 204 (N (x 215 i)))
def Dn (x y : MI) : Prop := (∀ p, x 229 p ≠ 0 → y 229 p ≠ 0 ∧ ∀ j, j < 6 → y 233 (6 * p + j) = x 233 (6 * p + j)) ∧ (∀ l, x 208 l ≠ 4 → y 208 l ≠ 4) ∧ (y 30 27 = x 30 27 ∧ ∀ p, N (x 30 27) ≤ p → y 232 p = x 232 p) ∧ ∀ i, obk x i → obk y i
theorem Dn.tr {x y z : MI} (h : Dn x y) (k : Dn y z) : Dn x z := ⟨fun p hp => ⟨(k.1 p (h.1 p hp).1).1, fun j hj => ((k.1 p (h.1 p hp).1).2 j hj).trans ((h.1 p hp).2 j hj)⟩, fun l hl => k.2.1 l (h.2.1 l hl), ⟨k.2.2.1.1.trans h.2.2.1.1, fun p hp => (k.2.2.1.2 p (by rw [h.2.2.1.1]; exact hp)).trans (h.2.2.1.2 p hp)⟩, fun i hi => k.2.2.2 i (h.2.2.2 i hi)⟩
theorem Dn_of {x y : MI} (h1 : y 229 = x 229) (h2 : y 233 = x 233) (h3 : ∀ l, x 208 l ≠ 4 → y 208 l ≠ 4) (h4 : y 30 27 = x 30 27 ∧ ∀ p, N (x 30 27) ≤ p → y 232 p = x 232 p := by first | exact ⟨rfl, fun _ _ => rfl⟩ | (refine ⟨?_, fun p9 _ => ?_⟩ <;> simp [Flog, Rlog, Fbec, Fenq0, Fsch0, FchS, Fblk, rdI])) (h5 : ∀ i, obk x i → obk y i := by first | exact fun _ h => h | (intro i9 h9; simpa [obk, Flog, Rlog, Fbec, Fenq0, Fsch0, FchS, rdI, upI_ne] using h9)) : Dn x y := ⟨fun p hp => ⟨by rw [h1]; exact hp, fun j _ => by rw [h2]⟩, h3, h4, h5⟩
def Ph (x : PX) : Nat := tr x.1 + 40 * (1000 - x.2.2)
def gs (n : Nat) (x y : PX) : Prop := Inv n y.1 ∧ (St x.1 y.1 ∧ Dn x.1 y.1) ∧ x.2.2 ≤ y.2.2 ∧ y.2.2 ≤ 1000
/-- a good step that makes the trace grow by at most c beyond what its work pays -/
def gc (n c : Nat) (x y : PX) : Prop := gs n x y ∧ Ph y ≤ Ph x + c
theorem gc.tr {n c1 c2 : Nat} {x y z : PX} (h : gc n c1 x y) (k : gc n c2 y z) : gc n (c1 + c2) x z := by
  obtain ⟨⟨h1, h2, h3, h4⟩, h5⟩ := h
  obtain ⟨⟨k1, k2, k3, k4⟩, k5⟩ := k
  exact ⟨⟨k1, ⟨h2.1.tr k2.1, h2.2.tr k2.2⟩, Nat.le_trans h3 k3, k4⟩, by omega⟩
theorem gc.up {n c1 c2 : Nat} {x y : PX} (h : gc n c1 x y) (hc : c1 ≤ c2) : gc n c2 x y := ⟨h.1, by have := h.2; omega⟩
theorem gc.rf {n : Nat} {x : PX} (h : Inv n x.1) (hw : x.2.2 ≤ 1000) : gc n 0 x x := ⟨⟨h, ⟨St.rf, Dn_of rfl rfl (fun _ h => h)⟩, Nat.le_refl _, hw⟩, Nat.le_refl _⟩
theorem gc_log {n : Nat} {S : MI} {T : ML} {w : Nat} (a b c : Int32) (h : Inv n S) (hw : w ≤ 1000) (hb : tr S + 1 < 2 ^ 31) : gc n 1 (S, T, w) (Flog S a b c, T, w) := by
  obtain ⟨h1, h2⟩ := Inv_log a b c h hb
  refine ⟨⟨h1, ⟨by simp [St, Flog, Rlog, rdI, upI_ne], Dn_of (by simp [Flog, Rlog, upI_ne]) (by simp [Flog, Rlog, upI_ne]) (fun l9 h9 => by simpa [Flog, Rlog, rdI] using h9)⟩, Nat.le_refl _, hw⟩, ?_⟩
  simp only [Ph]
  rw [h2]
  omega
theorem gc_bec {n : Nat} {S : MI} {T : ML} {w i : Nat} (s : Int32) (h : Inv n S) (hw : w ≤ 1000) (hb : tr S + 1 < 2 ^ 31) (hs : s = 1 ∨ s = 2 ∨ s = 3 ∨ s = 4 ∨ s = 5) (hs4 : s ≠ 4 := by decide) : gc n 1 (S, T, w) (Fbec S i s, T, w) := by
  obtain ⟨h1, h2⟩ := tr_bec (i := i) h hb hs
  refine ⟨⟨h1, ⟨by simp [St, Fbec, Flog, Rlog, rdI, upI_ne], Dn_of (by simp [Fbec, Flog, Rlog, upI_ne]) (by simp [Fbec, Flog, Rlog, upI_ne]) (fun l9 h9 => by by_cases e : l9 = i <;> simp [Fbec, Flog, Rlog, rdI, e, hs4]; exact h9)⟩, Nat.le_refl _, hw⟩, ?_⟩
  simp only [Ph]
  rw [h2]
  omega
theorem gc_put {n : Nat} {S : MI} {T : ML} {w i : Nat} {k x : Int32} (th m v : Int32) (h : Inv n S) (hw : w ≤ 1000) (hb : tr S + 1 < 2 ^ 31) (hi : i < n) (hk : okQ S k x) : gc n 1 (S, T, w) (Fput S th i k x m v, T, w) := by
  unfold Fput
  split
  · exact gc_log th 4 v h hw hb
  · rename_i hr
    have hq := nb_lt (h.2.2.2.2.2.2.1 i hi).1.1 (fun e => hr (Or.inr e))
    have h0 := Inv_enq0 (m := m) h hi hq hk
    have e0 : tr (Fenq0 S i k x m) = tr S := by simp [tr, Fenq0, rdI]
    have g0 : gc n 0 (S, T, w) (Fenq0 S i k x m, T, w) := ⟨⟨h0, ⟨by simp [St, Fenq0, rdI, upI_ne], Dn_of (by simp [Fenq0, upI_ne]) (by simp [Fenq0, upI_ne]) (fun l9 h9 => by simpa [Fenq0, rdI] using h9)⟩, Nat.le_refl _, hw⟩, by simp only [Ph]; rw [e0]; omega⟩
    unfold Fenq
    split
    · exact g0.tr (gc_bec 2 h0 hw (by rw [e0]; exact hb) (by decide))
    · exact g0.up (by omega)
theorem gc_sch {n : Nat} {S : MI} {T T' : ML} {w i : Nat} {t : Int32} (th : Int32) (h : Inv n S) (hw : w ≤ 1000) (hb : tr S + 2 < 2 ^ 31) (hi : i < n) (ht : nbt t (N (S 30 3))) : gc n 2 (S, T, w) (Fsch S th i t, T', w) := by
  have hT : ∀ {a b : MI} {c : Nat} {T1 T2 T3 : ML}, gc n c (a, T1, w) (b, T2, w) → gc n c (a, T1, w) (b, T3, w) := fun q => q
  unfold Fsch
  split
  · exact hT ((gc_log (T := T) th 4 t h hw (by omega)).up (by omega))
  · rename_i hr
    have h400 : N (S 30 23) < 400 := by
      have hM := h.2.2.2.2.2.1.1
      rcases Nat.lt_or_ge (N (S 30 23)) 400 with q | q
      · exact q
      · exact absurd (Or.inr (Or.inl (by rw [hM.1, show N (S 30 23) = 400 by have := hM.2; omega]; rfl))) hr
    have h0 := Inv_tadd h hi h400 ht
    have e0 : tr (Fsch0 S i t) = tr S := by simp [tr, Fsch0, rdI]
    have g0 : gc n 0 (S, T, w) (Fsch0 S i t, T, w) := ⟨⟨h0, ⟨by simp [St, Fsch0, rdI, upI_ne], Dn_of (by simp [Fsch0, upI_ne]) (by simp [Fsch0, upI_ne]) (fun l9 h9 => by simpa [Fsch0, rdI] using h9)⟩, Nat.le_refl _, hw⟩, by simp only [Ph]; rw [e0]; omega⟩
    split
    · have g1 := gc_bec (T := T) (w := w) (i := i) 2 h0 hw (by rw [e0]; omega) (by decide)
      have e1 := (tr_bec (i := i) (s := 2) h0 (by rw [e0]; omega) (by decide)).2
      exact hT ((g0.tr g1).tr (gc_log th 9 _ g1.1.1 hw (by rw [e1, e0]; omega)))
    · exact hT ((g0.tr (gc_log th 9 _ h0 hw (by rw [e0]; omega))).up (by omega))
theorem gc_shut {n : Nat} {S : MI} {T T' : ML} {w : Nat} (h : Inv n S) (hw : w ≤ 1000) (hb : tr S + 8 < 2 ^ 31) : ∀ k, k ≤ n → gc n k (S, T, w) (Fshut S k, T', w)
  | 0, _ => gc.rf h hw
  | k + 1, hk => by
    have g := gc_shut (T := T) (T' := T) h hw hb k (by omega)
    have hn8 := h.1
    have hph := g.2
    simp only [Ph] at hph
    simp only [Fshut]
    split
    · exact g.tr (gc_bec (T := T) 3 g.1.1 hw (by omega) (by decide))
    · exact g.up (by omega)
theorem gc_0 {n : Nat} {S S' : MI} {T T' : ML} {w : Nat} (h : Inv n S') (hs : St S S') (hd : Dn S S') (ht : S' 30 41 = S 30 41) (hw : w ≤ 1000) : gc n 0 (S, T, w) (S', T', w) := ⟨⟨h, ⟨hs, hd⟩, Nat.le_refl _, hw⟩, by simp [Ph, tr, ht]⟩
/-- a unit of work pays for 40 entries -/
theorem gc_w {n : Nat} {S : MI} {T : ML} {w : Nat} (h : Inv n S) (hw : w < 1000) : gs n (S, T, w) (S, T, w + 1) ∧ Ph (S, T, w + 1) + 40 = Ph (S, T, w) := ⟨⟨h, ⟨St.rf, Dn_of rfl rfl (fun _ h => h)⟩, by show w ≤ w + 1; omega, by show w + 1 ≤ 1000; omega⟩, by simp only [Ph]; omega⟩
def hypD (n : Nat) (D : Nat → Nat → Nat → PX → PX) : Prop := ∀ nf fr t x, Inv n x.1 → x.2.2 ≤ 1000 → t < N (x.1 30 3) → Ph x + 100 < 2 ^ 31 → gc n 1 x (D nf fr t x)
def hypG (n : Nat) (G : Nat → Nat → Nat → Int32 → PX → PX) : Prop := ∀ nf fr c m x, Inv n x.1 → x.2.2 ≤ 1000 → c < N (x.1 30 34) → Ph x + 120 < 2 ^ 31 → gc n 13 x (G nf fr c m x)
theorem Ph_tr {x : PX} {b : Nat} (h : Ph x + b < 2 ^ 31) : tr x.1 + b < 2 ^ 31 := by
  unfold Ph at h
  omega
theorem gc_tell {n : Nat} {D : Nat → Nat → Nat → PX → PX} (hD : hypD n D) (th : Int32) (nf fr p t : Nat) (x : PX) (h : Inv n x.1) (hw : x.2.2 ≤ 1000) (hp : p < N (x.1 30 27)) (ht : t < N (x.1 30 3)) (hb : Ph x + 101 < 2 ^ 31) : gc n 2 x (Ltell D th nf fr p t x) := by
  obtain ⟨S, T, w⟩ := x
  change Inv n S at h
  change w ≤ 1000 at hw
  change p < N (S 30 27) at hp
  change t < N (S 30 3) at ht
  have hb1 : tr S + 101 < 2 ^ 31 := Ph_tr hb
  have h24 := h.2.2.1.1.2
  unfold Ltell
  split
  · have g := gc_log (T := T) th 5 (nI t) h hw (by omega)
    refine g.tr (hD (nf + 1) fr t _ g.1.1 hw ?_ ?_)
    · have e : Flog S th 5 (nI t) 30 3 = S 30 3 := g.1.2.1.1.2.1
      show t < N (Flog S th 5 (nI t) 30 3)
      rw [e]
      exact ht
    · have := g.2
      show Ph (Flog S th 5 (nI t), T, w) + 100 < 2 ^ 31
      omega
  · have he := (h.2.2.2.1.2 p hp).1
    exact (gc_put th 0 (nI t) h hw (by omega) he.2 (Or.inr ⟨Or.inr rfl, ⟨by rw [N_nI (by omega)], by rw [N_nI (by omega)]; exact ht⟩⟩)).up (by omega)
theorem gc_tells {n : Nat} {D : Nat → Nat → Nat → PX → PX} (hD : hypD n D) (th : Int32) (nf fr p k : Nat) : ∀ (m : Nat) (x : PX), Inv n x.1 → x.2.2 ≤ 1000 → p < N (x.1 30 27) → m ≤ k → k ≤ 6 → (∀ j, j < k → nbt (x.1 233 (6 * p + j)) (N (x.1 30 3))) → x.1 229 p ≠ 0 → Ph x + 2 * m + 100 < 2 ^ 31 → gc n (2 * m) x (Ltells D th nf fr p k m x)
  | 0, x, h, hw, _, _, _, _, _, _ => gc.rf h hw
  | m + 1, x, h, hw, hp, hm, hk, hl, hd, hb => by
    simp only [Ltells]
    have hj := hl (k - (m + 1)) (by omega)
    have g := gc_tell hD th nf fr p (N (x.1 233 (6 * p + (k - (m + 1))))) x h hw hp hj.2 (by omega)
    have e3 := g.1.2.1.1.2.1
    have e27 := g.1.2.1.1.2.2.1
    have hdn := g.1.2.1.2.1 p hd
    have hph := g.2
    have g2 := gc_tells hD th nf fr p k m (Ltell D th nf fr p (N (x.1 233 (6 * p + (k - (m + 1))))) x) g.1.1 g.1.2.2.2 (by rw [e27]; exact hp) (by omega) hk (fun j hj => by rw [hdn.2 j (by omega), e3]; exact hl j hj) hdn.1 (by omega)
    exact (g.tr g2).up (by omega)
theorem St_fin {S : MI} {p : Nat} {how v : Int32} : St S (Ffin S p how v) := by simp [St, Ffin, rdI, upI_ne]
theorem Dn_fin {S : MI} {p : Nat} {how v : Int32} (hh : how ≠ 0) (hp : p < N (S 30 27)) : Dn S (Ffin S p how v) := ⟨fun q hq => ⟨by by_cases e : q = p <;> simp [Ffin, rdI, e, hh]; exact hq, fun j _ => by simp [Ffin, rdI]⟩, fun l9 h9 => by simpa [Ffin, rdI] using h9, ⟨by simp [Ffin, rdI], fun q hq => by have : ¬ q = p := (by omega); simp [Ffin, rdI, this]⟩, fun i9 h9 => by simpa [obk, Ffin, rdI, upI_ne] using h9⟩
theorem gc_fin {n : Nat} {D : Nat → Nat → Nat → PX → PX} (hD : hypD n D) (th : Int32) (nf fr p : Nat) (how v : Int32) (x : PX) (h : Inv n x.1) (hw : x.2.2 ≤ 1000) (hp : p < N (x.1 30 27)) (hh : how ≠ 0) (hb : Ph x + 112 < 2 ^ 31) : gc n 12 x (Lfin D th nf fr p how v x) := by
  obtain ⟨S, T, w⟩ := x
  change Inv n S at h
  change w ≤ 1000 at hw
  change p < N (S 30 27) at hp
  obtain ⟨a1, a2, a3⟩ := h.2.2.2.1.2 p hp
  have ha := a2.2
  unfold Lfin
  split
  · exact (gc.rf h hw).up (by omega)
  · have h0 := Inv_fin (p := p) how v h
    have g0 : gc n 0 (S, T, w) (Ffin S p how v, T, w) := gc_0 h0 St_fin (Dn_fin hh hp) (by simp [Ffin, rdI]) hw
    have g1 := gc_tells hD th nf fr p (N (S 232 p)) (N (S 232 p)) (Ffin S p how v, T, w) h0 hw (by simpa [Ffin, rdI] using hp) (Nat.le_refl _) ha (fun j hj => by simpa [Ffin, rdI] using a3 j hj) (by simpa [Ffin, rdI] using hh) (by have := g0.2; omega)
    exact (g0.tr g1).up (by omega)
theorem gc_lis {n : Nat} {D : Nat → Nat → Nat → PX → PX} (hD : hypD n D) (th : Int32) (nf fr p t : Nat) (x : PX) (h : Inv n x.1) (hw : x.2.2 ≤ 1000) (hp : p < N (x.1 30 27)) (ht : t < N (x.1 30 3)) (hq : x.1 229 p ≠ 0 ∨ x.1 232 p < 6) (hb : Ph x + 101 < 2 ^ 31) : gc n 2 x (Llis D th nf fr p t x) := by
  obtain ⟨S, T, w⟩ := x
  change Inv n S at h
  change w ≤ 1000 at hw
  change p < N (S 30 27) at hp
  change t < N (S 30 3) at ht
  change S 229 p ≠ 0 ∨ S 232 p < 6 at hq
  obtain ⟨a1, a2, a3⟩ := h.2.2.2.1.2 p hp
  unfold Llis
  split
  · exact gc_tell hD th nf fr p t (S, T, w) h hw hp ht hb
  · rename_i hd
    have hd0 : S 229 p = 0 := by simpa using hd
    have h6 : N (S 232 p) < 6 := by
      have := hq.resolve_left (fun q => q hd0)
      rw [a2.1, show (6 : Int32) = nI 6 from rfl] at this
      exact (nI_ltI (by have := a2.2; omega) (by omega)).mp this
    refine (gc_0 (Inv_lis h hp ht h6) (by simp [St, Flis, rdI, upI_ne]) ⟨fun q hq9 => ⟨by simpa [Flis, rdI] using hq9, fun j hj => ?_⟩, fun l9 h9 => by simpa [Flis, rdI] using h9, ⟨by simp [Flis, rdI], fun q hq => by have : ¬ q = p := (by omega); simp [Flis, rdI, this]⟩, fun i9 h9 => by simpa [obk, Flis, rdI, upI_ne] using h9⟩ (by simp [Flis, rdI]) hw).up (by omega)
    have e : ¬ q = p := fun e => hq9 (by rw [e]; exact hd0)
    have : ¬ 6 * q + j = 6 * p + N (S 232 p) := by omega
    simp [Flis, rdI, this]
theorem gc_send {n : Nat} {G : Nat → Nat → Nat → Int32 → PX → PX} (hG : hypG n G) (th : Int32) (nf fr c : Nat) (m : Int32) (x : PX) (h : Inv n x.1) (hw : x.2.2 ≤ 1000) (hc : c < N (x.1 30 34)) (hb : Ph x + 120 < 2 ^ 31) : gc n 13 x (Lsend G th nf fr c m x) := by
  obtain ⟨S, T, w⟩ := x
  change Inv n S at h
  change w ≤ 1000 at hw
  change c < N (S 30 34) at hc
  have hb1 : tr S + 120 < 2 ^ 31 := Ph_tr hb
  have h16 := h.2.2.2.2.1.1.2
  unfold Lsend
  split
  · exact hG nf fr c m _ h hw hc hb
  · have he := (h.2.2.2.2.1.2.2 c hc).1
    exact (gc_put th m (-1) h hw (by omega) he.2 (Or.inl ⟨rfl, ⟨by rw [N_nI (by omega)], by rw [N_nI (by omega)]; exact hc⟩⟩)).up (by omega)
