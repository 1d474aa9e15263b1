theorem is_nbt {x a : Int32} {b : Nat} (h : nb x b) (hb : b < 2 ^ 31) (h0 : 0 ≤ a) (h1 : a < x) : nbt a (N x) := by
  obtain ⟨j, hj, rfl⟩ := nI_of (Int32.not_lt.mpr h0)
  rw [h.1] at h1
  unfold nbt
  rw [N_nI hj]
  exact ⟨rfl, (nI_ltI hj (by have := h.2; omega)).mp h1⟩
theorem isT_nbt {n : Nat} {S : MI} {a : Int32} (h : Inv n S) (ha : isT S a) : nbt a (N (S 30 3)) := is_nbt h.2.2.1.1 (by decide) ha.1 ha.2
theorem isP_nbt {n : Nat} {S : MI} {a : Int32} (h : Inv n S) (ha : isP S a) : nbt a (N (S 30 27)) := is_nbt h.2.2.2.1.1 (by decide) ha.1 ha.2
theorem isC_nbt {n : Nat} {S : MI} {a : Int32} (h : Inv n S) (ha : isC S a) : nbt a (N (S 30 34)) := is_nbt h.2.2.2.2.1.1 (by decide) ha.1 ha.2
theorem isL_nbt {n : Nat} {a : Int32} (hn : n ≤ 8) (ha : isL n a) : nbt a n := by
  obtain ⟨j, hj, rfl⟩ := nI_of (Int32.not_lt.mpr ha.1)
  unfold nbt
  rw [N_nI hj]
  exact ⟨rfl, (nI_ltI hj (by omega)).mp ha.2⟩
theorem peer_ok {n : Nat} {S : MI} {a : Int32} (h : Inv n S) (ha : nbt a (N (S 30 34))) : a ^^^ 1 = nI (N a ^^^ 1) ∧ N (a ^^^ 1) = N a ^^^ 1 ∧ N a ^^^ 1 < N (S 30 34) := by
  have h16 := h.2.2.2.2.1.1.2
  have h2 := h.2.2.2.2.1.2.1
  have e : a ^^^ 1 = nI (N a ^^^ 1) := by
    have := peer_nI (N a) (by have := ha.2; omega)
    rw [← ha.1] at this
    exact this
  have hl := peer_lt (N a) (by have := ha.2; omega) (N (S 30 34)) (by omega) h2 ha.2
  refine ⟨e, ?_, hl⟩
  rw [e]
  exact N_nI (by omega)
theorem Ftgt_ok {n : Nat} {S : MI} {th b : Int32} (h : Inv n S) (hth : nbt th n) (hb : b = -1 ∨ b = -2 ∨ isL n b) : (if b = -1 then th else if b = -2 then Fch n (S 30 22) else b) = nI (Ftgt n S th b) ∧ Ftgt n S th b < n := by
  unfold Ftgt
  by_cases e : b = -1
  · rw [if_pos e, if_pos e]
    exact hth
  · rw [if_neg e, if_neg e]
    by_cases e2 : b = -2
    · rw [if_pos e2, if_pos e2]
      obtain ⟨j, hj, hc⟩ := Fch_lt h.1 (S 30 22)
      rw [hc, N_nI (by have := h.1; omega)]
      exact ⟨rfl, hj⟩
    · rw [if_neg e2, if_neg e2]
      exact isL_nbt h.1.2 ((hb.resolve_left e).resolve_left e2)
theorem gc_tgtS {n : Nat} {S : MI} {T : ML} {w : Nat} (b : Int32) (h : Inv n S) (hw : w ≤ 1000) : gc n 0 (S, T, w) (FtgtS S b, T, w) := by
  unfold FtgtS
  split
  · exact gc_0 (Inv_ch h) (by simp [St, FchS, rdI, upI_ne]) (Dn_of (by simp [FchS, upI_ne]) (by simp [FchS, upI_ne]) (fun l9 h9 => by simpa [FchS, rdI] using h9)) (by simp [FchS, rdI]) hw
  · exact gc.rf h hw
theorem gc_carry {n : Nat} {D : Nat → Nat → Nat → PX → PX} {G : Nat → Nat → Nat → Int32 → PX → PX} (hD : hypD n D) (hG : hypG n G) {th : Int32} (hth : nbt th n) (nf fr : Nat) (k a b : Int32) (x : PX) (h : Inv n x.1) (hw : x.2.2 ≤ 1000) (hk8 : k ≠ 8) (hc : Fcan n x.1 k a b) (hb : Ph x + 120 < 2 ^ 31) : gc n 13 x (Lcarry n D G th nf fr k a b x) := by
  obtain ⟨S, T, w⟩ := x
  change Inv n S at h
  change w ≤ 1000 at hw
  change Fcan n S k a b at hc
  have hb1 : tr S + 120 < 2 ^ 31 := Ph_tr hb
  have hn8 := h.1
  unfold Fcan at hc
  unfold Lcarry
  by_cases e0 : k = 0
  · rw [if_pos e0]
    exact (gc_log th 0 a h hw (by omega)).up (by omega)
  rw [if_neg e0] at hc ⊢
  by_cases e1 : k = 1
  · rw [if_pos e1] at hc ⊢
    have g := gc_tgtS (T := T) b h hw
    have e3 : FtgtS S b 30 3 = S 30 3 := g.1.2.1.1.2.1
    have hph := g.2
    refine (g.tr (gc_put th 0 a g.1.1 hw ?_ (Ftgt_ok h hth hc.2).2 (Or.inr ⟨Or.inl rfl, by rw [e3]; exact isT_nbt h hc.1⟩))).up (by omega)
    have := Ph_tr (x := (FtgtS S b, T, w)) (b := 1) (by omega)
    exact this
  rw [if_neg e1] at hc ⊢
  by_cases e2 : k = 2
  · rw [if_pos e2] at hc ⊢
    exact (gc_sch th h hw (by omega) hth.2 (isT_nbt h hc.1)).up (by omega)
  rw [if_neg e2] at hc ⊢
  by_cases e3 : k = 3
  · rw [if_pos e3] at hc ⊢
    exact (gc_0 (Inv_drop h) (by simp [St, rdI, upI_ne]) (Dn_of (by simp [upI_ne]) (by simp [upI_ne]) (fun l9 h9 => by simpa [rdI] using h9)) (by simp [rdI]) hw).up (by omega)
  rw [if_neg e3] at hc ⊢
  by_cases e4 : k = 4 ∨ k = 5 ∨ k = 6 ∨ k = 8 ∨ k = 13
  · rw [if_pos e4] at hc
    have hp := (isP_nbt h hc).2
    rcases e4 with e | e | e | e | e
    · rw [if_pos e]
      exact (gc_fin hD th nf fr (N a) 1 b (S, T, w) h hw hp (by decide) (by omega)).up (by omega)
    · rw [if_neg (by rw [e]; decide), if_pos e]
      exact (gc_fin hD th nf fr (N a) 2 b (S, T, w) h hw hp (by decide) (by omega)).up (by omega)
    · rw [if_neg (by rw [e]; decide), if_neg (by rw [e]; decide), if_pos e]
      exact (gc_fin hD th nf fr (N a) 3 b (S, T, w) h hw hp (by decide) (by omega)).up (by omega)
    · exact absurd e hk8
    · subst e
      simp only [show ¬ ((13 : Int32) = 4) by decide, show ¬ ((13 : Int32) = 5) by decide, show ¬ ((13 : Int32) = 6) by decide, show ¬ ((13 : Int32) = 7) by decide, show ¬ ((13 : Int32) = 10) by decide, show ¬ ((13 : Int32) = 11) by decide, show ¬ ((13 : Int32) = 12) by decide, if_false, if_true]
      exact (gc_0 (Inv_pin h) (by simp [St, rdI, upI_ne]) (Dn_of (by simp [upI_ne]) (by simp [upI_ne]) (fun l9 h9 => by simpa [rdI] using h9)) (by simp [rdI]) hw).up (by omega)
  rw [if_neg e4] at hc
  rw [if_neg (fun q => e4 (Or.inl q)), if_neg (fun q => e4 (Or.inr (Or.inl q))), if_neg (fun q => e4 (Or.inr (Or.inr (Or.inl q))))]
  by_cases e7 : k = 7
  · rw [if_pos e7] at hc ⊢
    exact (gc_lis hD th nf fr (N a) (N b) (S, T, w) h hw (isP_nbt h hc.1).2 (isT_nbt h hc.2.1).2 hc.2.2 (by omega)).up (by omega)
  rw [if_neg e7] at hc ⊢
  by_cases e10 : k = 10 ∨ k = 11
  · rw [if_pos e10] at hc
    have hcc := isC_nbt h hc
    rcases e10 with e | e
    · rw [if_pos e]
      exact gc_send hG th nf fr (N a) b (S, T, w) h hw hcc.2 hb
    · rw [if_neg (by rw [e]; decide), if_pos e]
      obtain ⟨-, p2, p3⟩ := peer_ok h hcc
      exact gc_send hG th nf fr _ b (S, T, w) h hw (by rw [p2]; exact p3) hb
  rw [if_neg e10] at hc
  rw [if_neg (fun q => e10 (Or.inl q)), if_neg (fun q => e10 (Or.inr q))]
  by_cases e12 : k = 12
  · rw [if_pos e12] at hc ⊢
    exact (gc_shut h hw (by omega) n (Nat.le_refl _)).up (by omega)
  rw [if_neg e12] at hc
  exact hc.elim
theorem gc_ord {n : Nat} {D : Nat → Nat → Nat → PX → PX} {G : Nat → Nat → Nat → Int32 → PX → PX} (hD : hypD n D) (hG : hypG n G) {th : Int32} (hth : nbt th n) (nf fr : Nat) (k a b : Int32) (x : PX) (h : Inv n x.1) (hw : x.2.2 ≤ 1000) (hb : Ph x + 100 < 2 ^ 31) :
    gc n 0 x (Lord n D G th nf fr k a b x).1 ∧ ((Lord n D G th nf fr k a b x).2 = 1 → Ph (Lord n D G th nf fr k a b x).1 + 1 ≤ Ph x ∨ Lord n D G th nf fr k a b x = (x, 1)) ∧ ((Lord n D G th nf fr k a b x).2 = 0 ∨ (Lord n D G th nf fr k a b x).2 = 1 ∨ ((Lord n D G th nf fr k a b x).2 = 2 ∧ nbt a (N (x.1 30 27)) ∧ nf = 0 ∧ fr = 0 ∧ (Lord n D G th nf fr k a b x).1 = (x.1, x.2.1, x.2.2 + 1))) := by
  obtain ⟨S, T, w⟩ := x
  change Inv n S at h
  change w ≤ 1000 at hw
  unfold Lord
  by_cases ew : 1000 ≤ w
  · rw [if_pos ew]
    exact ⟨gc.rf h hw, fun _ => Or.inr rfl, Or.inr (Or.inl rfl)⟩
  rw [if_neg ew]
  obtain ⟨g1, g2⟩ := gc_w (T := T) h (show w < 1000 by omega)
  by_cases ec : ¬ Fcan n S k a b
  · rw [if_pos ec]
    exact ⟨⟨g1, by show Ph (S, T, w + 1) ≤ Ph (S, T, w) + 0; omega⟩, fun _ => Or.inl (by show Ph (S, T, w + 1) + 1 ≤ Ph (S, T, w); omega), Or.inr (Or.inl rfl)⟩
  rw [if_neg ec]
  have hc : Fcan n S k a b := Decidable.not_not.mp ec
  have hb2 : Ph (S, T, w) + 100 < 2 ^ 31 := hb
  by_cases e8 : k = 8
  · rw [if_pos e8]
    by_cases ed : S 229 (N a) ≠ 0
    · rw [if_pos ed]
      exact ⟨⟨g1, by show Ph (S, T, w + 1) ≤ Ph (S, T, w) + 0; omega⟩, fun q => (by simp at q), Or.inl rfl⟩
    · rw [if_neg ed]
      by_cases er : 0 < nf ∨ 0 < fr ∨ S 228 (N a) = th
      · rw [if_pos er]
        have hb1 : tr S + 100 < 2 ^ 31 := Ph_tr hb
        have g3 := gc_log (T := T) (w := w + 1) th 3 a h (by omega) (by omega)
        have gg : gc n 0 (S, T, w) (S, T, w + 1) := ⟨g1, by omega⟩
        refine ⟨⟨(gg.tr g3).1, ?_⟩, fun q => (by simp at q), Or.inl rfl⟩
        have := g3.2
        show Ph (Flog S th 3 a, T, w + 1) ≤ Ph (S, T, w) + 0
        omega
      · rw [if_neg er]
        refine ⟨⟨g1, by show Ph (S, T, w + 1) ≤ Ph (S, T, w) + 0; omega⟩, fun q => (by simp at q), Or.inr (Or.inr ⟨rfl, ?_, by omega, by omega, rfl⟩)⟩
        subst e8
        have : isP S a := by simpa [Fcan] using hc
        exact isP_nbt h this
  · rw [if_neg e8]
    have g3 := gc_carry hD hG hth nf fr k a b (S, T, w + 1) h (by show w + 1 ≤ 1000; omega) e8 hc (by omega)
    have gg : gc n 0 (S, T, w) (S, T, w + 1) := ⟨g1, by omega⟩
    refine ⟨⟨(gg.tr g3).1, ?_⟩, fun q => (by simp at q), Or.inl rfl⟩
    have := g3.2
    show Ph (Lcarry n D G th nf fr k a b (S, T, w + 1)) ≤ Ph (S, T, w) + 0
    omega
theorem gc_ords {n : Nat} {D : Nat → Nat → Nat → PX → PX} {G : Nat → Nat → Nat → Int32 → PX → PX} (hD : hypD n D) (hG : hypG n G) {th : Int32} (hth : nbt th n) (nf fr t : Nat) : ∀ (m k : Nat) (x : PX), Inv n x.1 → x.2.2 ≤ 1000 → t < N (x.1 30 3) → k + m ≤ N (x.1 204 t) → Ph x + 100 < 2 ^ 31 → gc n 1 x (Lords n D G th nf fr t m k x)
  | 0, k, x, h, hw, _, _, _ => (gc.rf h hw).up (by omega)
  | m + 1, k, x, h, hw, ht, hk, hb => by
    obtain ⟨g, g1, g2⟩ := gc_ord hD hG hth nf fr (x.1 205 (8 * t + k)) (x.1 206 (8 * t + k)) (x.1 207 (8 * t + k)) x h hw hb
    simp only [Lords]
    generalize Lord n D G th nf fr (x.1 205 (8 * t + k)) (x.1 206 (8 * t + k)) (x.1 207 (8 * t + k)) x = r at *
    obtain ⟨y, e⟩ := r
    have hph := g.2
    have e3 : y.1 30 3 = x.1 30 3 := g.1.2.1.1.2.1
    rcases g2 with e0 | e0 | ⟨e0, p1, p2, p3, p4⟩
    · change e = 0 at e0
      subst e0
      exact (g.tr (gc_ords hD hG hth nf fr t m (k + 1) y g.1.1 g.1.2.2.2 (by rw [e3]; exact ht) (by rw [show y.1 204 = x.1 204 from g.1.2.1.1.2.2.2.2.1]; omega) (by show Ph y + 100 < 2 ^ 31; change Ph y ≤ Ph x + 0 at hph; omega))).up (by omega)
    · change e = 1 at e0
      subst e0
      obtain ⟨yS, yT, yw⟩ := y
      have hb9 := Ph_tr hb
      have htr : tr yS + 1 < 2 ^ 31 := by
        have : Ph (yS, yT, yw) + 1 < 2 ^ 31 := by change Ph (yS, yT, yw) ≤ Ph x + 0 at hph; omega
        exact Ph_tr this
      have g3 := gc_log (T := yT) (w := yw) th 2 (nI t) g.1.1 g.1.2.2.2 htr
      exact (g.tr g3).up (by omega)
    · change e = 2 at e0
      subst e0
      change y = _ at p4
      subst p4
      have gb : gc n 0 (x.1, x.2.1, x.2.2 + 1) (Fblk x.1 (N th) t (k + 1) (x.1 206 (8 * t + k)), x.2.1, x.2.2 + 1) := gc_0 (Inv_blk h ht (by have := (h.2.2.1.2 t).2; omega) p1) (by simp [St, Fblk, rdI, upI_ne]) (Dn_of (by simp [Fblk, upI_ne]) (by simp [Fblk, upI_ne]) (fun l9 h9 => by simpa [Fblk, rdI] using h9) (h5 := fun i9 h9 => by
        unfold obk at h9 ⊢
        by_cases e : i9 = N th
        · intro _
          have e1 : N (nI (k + 1)) = k + 1 := N_nI (by have := (h.2.2.1.2 t).2; omega)
          have e2 : N (nI t) = t := N_nI (by have := h.2.2.1.1.2; omega)
          simp [Fblk, rdI, e, e1, e2]
          omega
        · simpa [Fblk, rdI, e] using h9)) (by simp [Fblk, rdI]) g.1.2.2.2
      exact (g.tr gb).up (by omega)
theorem gc_echo {n : Nat} {G : Nat → Nat → Nat → Int32 → PX → PX} (hG : hypG n G) (th : Int32) (nf fr c : Nat) (m : Int32) (x : PX) (h : Inv n x.1) (hw : x.2.2 ≤ 1000) (hc : c < N (x.1 30 34)) (hb : Ph x + 100 < 2 ^ 31) : gc n 0 x (Lecho G th nf fr c m x) := by
  obtain ⟨S, T, w⟩ := x
  change Inv n S at h
  change w ≤ 1000 at hw
  change c < N (S 30 34) at hc
  have h16 := h.2.2.2.2.1.1.2
  unfold Lecho
  split
  · rename_i hw2
    change w < 1000 at hw2
    obtain ⟨g1, g2⟩ := gc_w (T := T) h hw2
    have hN : N (nI c) = c := N_nI (by omega)
    have hcc : nbt (nI c) (N (S 30 34)) := ⟨by rw [hN], by rw [hN]; exact hc⟩
    obtain ⟨-, p2, p3⟩ := peer_ok h hcc
    have g3 := gc_send hG th nf fr (N (nI c ^^^ 1)) m (S, T, w + 1) h (by show w + 1 ≤ 1000; omega) (by rw [p2]; exact p3) (by omega)
    have gg : gc n 0 (S, T, w) (S, T, w + 1) := ⟨g1, by omega⟩
    refine ⟨(gg.tr g3).1, ?_⟩
    have := g3.2
    show Ph (Lsend G th nf fr (N (nI c ^^^ 1)) m (S, T, w + 1)) ≤ Ph (S, T, w) + 0
    omega
  · exact gc.rf h hw
theorem gc_go {n : Nat} {D : Nat → Nat → Nat → PX → PX} {G : Nat → Nat → Nat → Int32 → PX → PX} (hD : hypD n D) (hG : hypG n G) (th : Int32) (nf fr c : Nat) : ∀ (m j f : Nat) (ps : Int32) (x : PX), Inv n x.1 → x.2.2 ≤ 1000 → c < N (x.1 30 34) → j + m = N (x.1 236 c) → Ph x + 2 * m + 108 < 2 ^ 31 → gc n (2 * m + 1) x (Lgo n D G th nf fr c m j f ps x)
  | 0, j, f, ps, x, h, hw, hc, hj, hb => by
    obtain ⟨S, T, w⟩ := x
    have hb1 : tr S + 108 < 2 ^ 31 := Ph_tr (x := (S, T, w)) (by omega)
    simp only [Lgo]
    split
    · exact gc_log th 8 ps h hw (by omega)
    · exact gc_log th 2 _ h hw (by omega)
  | m + 1, j, f, ps, x, h, hw, hc, hj, hb => by
    obtain ⟨S, T, w⟩ := x
    change Inv n S at h
    change w ≤ 1000 at hw
    change c < N (S 30 34) at hc
    change j + (m + 1) = N (S 236 c) at hj
    have hb1 : tr S + 108 < 2 ^ 31 := Ph_tr (x := (S, T, w)) (by omega)
    have IH : ∀ (f : Nat) (ps : Int32) (y : PX) (c1 : Nat), gc n c1 (S, T, w) y → c1 ≤ 2 → gc n (2 * (m + 1) + 1) (S, T, w) (Lgo n D G th nf fr c m (j + 1) f ps y) := by
      intro f ps y c1 g hc1
      have hph := g.2
      have e34 : y.1 30 34 = S 30 34 := g.1.2.1.1.2.2.2.1
      have e236 : y.1 236 = S 236 := g.1.2.1.1.2.2.2.2.2.2.2.2.2.2.1
      exact (g.tr (gc_go hD hG th nf fr c m (j + 1) f ps y g.1.1 g.1.2.2.2 (by rw [e34]; exact hc) (by rw [e236]; omega) (by omega))).up (by omega)
    have gl := fun v => gc_log (T := T) (w := w) th 6 v h hw (by omega)
    simp only [Lgo]
    split
    · split
      · exact (gc.rf h hw).up (by omega)
      · exact IH 2 ps _ 0 (gc.rf h hw) (by omega)
    · split
      · exact IH 0 ps _ 0 (gc.rf h hw) (by omega)
      · split
        · exact IH 0 _ _ 1 (gl _) (by omega)
        · split
          · split
            · exact (gl _).up (by omega)
            · exact IH 0 ps _ 1 (gl _) (by omega)
          · split
            · have g1 := gl (1000000 * S 239 (6 * c + j) + ps)
              have hph := g1.2
              have e34 := g1.1.2.1.1.2.2.2.1
              exact IH 0 ps _ 1 (g1.tr (gc_echo hG th nf (fr + 1) c ps _ g1.1.1 hw (by rw [e34]; exact hc) (by omega))) (by omega)
            · split
              · rename_i hk4
                have g1 := gl (1000000 * S 239 (6 * c + j) + ps)
                have hph := g1.2
                have e3 := g1.1.2.1.1.2.1
                have ht := ((h.2.2.2.2.1.2.2 c hc).2.2 j (by omega) hk4).2
                exact IH 0 ps _ 2 (g1.tr (hD nf (fr + 1) (N (S 238 (6 * c + j))) _ g1.1.1 hw (by rw [e3]; exact ht) (by omega))) (by omega)
              · split
                · exact IH _ ps _ 1 (gl _) (by omega)
                · exact IH 0 ps _ 1 (gl _) (by omega)
theorem lev_ok {n : Nat} {th : Int32} (hth : nbt th n) : ∀ g, hypD n (Lv n th g).1 ∧ hypG n (Lv n th g).2
  | 0 => ⟨fun _ _ _ x h hw _ _ => (gc.rf h hw).up (by omega), fun _ _ _ _ x h hw _ _ => (gc.rf h hw).up (by omega)⟩
  | g + 1 => by
    obtain ⟨hD, hG⟩ := lev_ok hth g
    refine ⟨fun nf fr t x h hw ht hb => ?_, fun nf fr c m x h hw hc hb => ?_⟩
    · have h8 := (h.2.2.1.2 t).2
      exact gc_ords hD hG hth nf fr t (N (x.1 204 t)) 0 x h hw ht (by omega) hb
    · have h6 := (h.2.2.2.2.1.2.2 c hc).2.1.2
      exact (gc_go hD hG th nf fr c (N (x.1 236 c)) 0 0 m x h hw hc (by omega) (by omega)).up (by omega)
