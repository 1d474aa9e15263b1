/-! ===== what holds between the law's calls ===== -/
def HI (n : Nat) (S : MI) : Prop := Inv n S ∧ HK S ∧ (∀ i, S 208 i ≠ 4) ∧ (∀ i, obk S i) ∧ (∀ p, N (S 30 27) ≤ p → S 232 p = 0) ∧ ∀ c, N (S 30 34) ≤ c → S 236 c = 0
def HG (n : Nat) (S S' : MI) : Prop := HI n S' ∧ tr S' ≤ tr S + 40200
theorem HG.rf {n : Nat} {S : MI} (h : HI n S) : HG n S S := ⟨h, by omega⟩
theorem HI_gs {n : Nat} {x y : PX} (h : HI n x.1) (g : gs n x y) : HI n y.1 := by
  obtain ⟨h1, h2, h3, h4, h5, h6⟩ := h
  obtain ⟨g1, ⟨s, d⟩, -⟩ := g
  refine ⟨g1, fun j => ?_, fun i => d.2.1 i (h3 i), fun i => d.2.2.2 i (h4 i), fun p hp => ?_, fun c hc => ?_⟩
  · rw [s.2.2.2.2.2.1]; exact h2 j
  · rw [d.2.2.1.1] at hp
    rw [d.2.2.1.2 p hp]
    exact h5 p hp
  · rw [s.2.2.2.1] at hc
    rw [s.2.2.2.2.2.2.2.2.2.2.1]
    exact h6 c hc
theorem HG_gc {n c : Nat} {x y : PX} {S : MI} (h : HI n x.1) (g : gc n c x y) (hx : tr x.1 + (40 * (1000 - x.2.2) + c) ≤ tr S + 40200) : HG n S y.1 := by
  refine ⟨HI_gs h g.1, ?_⟩
  have := g.2
  simp only [Ph] at this
  omega
theorem hypD_id {n : Nat} : hypD n idD := fun _ _ _ x h hw _ _ => (gc.rf h hw).up (by omega)
/-- the parts of HI that only some cells speak of -/
theorem HI_cong {n : Nat} {S S' : MI} (h : HI n S) (hI : Inv n S') (e1 : S' 205 = S 205) (e2 : S' 208 = S 208) (e3 : S' 214 = S 214) (e4 : S' 216 = S 216) (e5 : S' 204 = S 204) (e6 : S' 215 = S 215) (e7 : S' 30 27 = S 30 27) (e8 : S' 232 = S 232) (e9 : S' 30 34 = S 30 34) (e10 : S' 236 = S 236) : HI n S' := by
  obtain ⟨h1, h2, h3, h4, h5, h6⟩ := h
  refine ⟨hI, fun j => ?_, fun i => ?_, fun i => ?_, fun p hp => ?_, fun c hc => ?_⟩
  · rw [e1]; exact h2 j
  · rw [e2]; exact h3 i
  · unfold obk; rw [e3, e4, e5, e6]; exact h4 i
  · rw [e7] at hp; rw [e8]; exact h5 p hp
  · rw [e9] at hc; rw [e10]; exact h6 c hc
theorem HG_cong {n : Nat} {S S' : MI} (h : HI n S) (hI : Inv n S') (e1 : S' 205 = S 205) (e2 : S' 208 = S 208) (e3 : S' 214 = S 214) (e4 : S' 216 = S 216) (e5 : S' 204 = S 204) (e6 : S' 215 = S 215) (e7 : S' 30 27 = S 30 27) (e8 : S' 232 = S 232) (e9 : S' 30 34 = S 30 34) (e10 : S' 236 = S 236) (e11 : S' 30 41 = S 30 41) : HG n S S' :=
  ⟨HI_cong h hI e1 e2 e3 e4 e5 e6 e7 e8 e9 e10, by unfold tr; rw [e11]; omega⟩
theorem HG_task {n : Nat} {S : MI} {T : ML} (h : HI n S) (hI : Inv n (Htask S T).2.2.1) : HG n S (Htask S T).2.2.1 := by
  unfold Htask at hI ⊢
  split
  · rename_i hc
    rw [if_pos hc] at hI
    exact HG_cong h hI (by simp [Ftask, upI_ne]) (by simp [Ftask, upI_ne]) (by simp [Ftask, upI_ne]) (by simp [Ftask, upI_ne]) (by simp [Ftask, upI_ne]) (by simp [Ftask, upI_ne]) (by simp [Ftask, rdI]) (by simp [Ftask, upI_ne]) (by simp [Ftask, rdI]) (by simp [Ftask, upI_ne]) (by simp [Ftask, rdI])
  · exact HG.rf h
theorem HG_order {n : Nat} {S : MI} {T : ML} (t k a b : Int32) (h : HI n S) (hI : Inv n (Horder S T t k a b).2.2.1) : HG n S (Horder S T t k a b).2.2.1 := by
  unfold Horder at hI ⊢
  split
  · rename_i hc
    rw [if_pos hc] at hI
    split
    · rename_i hc2
      rw [if_pos hc2] at hI
      obtain ⟨h1, h2, h3, h4, h5, h6⟩ := h
      refine ⟨⟨hI, fun j => ?_, fun i => ?_, fun i => ?_, fun p hp => ?_, fun c hc => ?_⟩, ?_⟩
      · have e : (Ford S (N t) k a b) 205 j = if j = 8 * N t + N (S 204 (N t)) then k else S 205 j := by simp [Ford, rdI]
        show 0 ≤ (Ford S (N t) k a b) 205 j ∧ (Ford S (N t) k a b) 205 j ≤ 13
        rw [e]
        split
        · exact hc.2
        · exact h2 j
      · simpa [Ford, rdI] using h3 i
      · have e9 : S 204 (N t) + 1 = nI (N (S 204 (N t)) + 1) := nI_add1 (h1.2.2.1.2 (N t)).1
        have hm := (h1.2.2.1.2 (N t)).2
        have hq := h4 i
        simp only [obk, Ford, rdI, upI] at hq ⊢
        intro h214
        simp only [Nat.reduceEqDiff, false_and, if_false] at h214
        have := hq h214
        by_cases ez : N (S 215 i) = N t
        · rw [ez] at this
          simp only [Nat.reduceEqDiff, false_and, if_false, ez, and_self, if_true]
          rw [e9, N_nI (by omega)]
          omega
        · simp only [Nat.reduceEqDiff, false_and, if_false, ez, and_false]
          exact this
      · simp only [Ford, rdI] at hp ⊢
        exact h5 p (by simpa using hp)
      · simp only [Ford, rdI] at hc ⊢
        exact h6 c (by simpa using hc)
      · have e : (Ford S (N t) k a b) 30 41 = S 30 41 := by simp [Ford, rdI]
        show tr (Ford S (N t) k a b) ≤ _
        unfold tr
        rw [e]; omega
    · exact HG.rf h
  · exact HG.rf h
theorem HG_promise {n : Nat} {S : MI} {T : ML} (x : Int32) (h : HI n S) (hI : Inv n (Hpromise n S T x).2.2.1) : HG n S (Hpromise n S T x).2.2.1 := by
  unfold Hpromise at hI ⊢
  split
  · rename_i hc
    rw [if_pos hc] at hI
    split
    · rename_i hc2
      rw [if_pos hc2] at hI
      obtain ⟨h1, h2, h3, h4, h5, h6⟩ := h
      have e9 : S 30 27 + 1 = nI (N (S 30 27) + 1) := nI_add1 h1.2.2.2.1.1.1
      have hm := h1.2.2.2.1.1.2
      refine ⟨⟨hI, fun j => ?_, fun i => ?_, fun i => ?_, fun p hp => ?_, fun c hc => ?_⟩, ?_⟩
      · simpa [Fpadd, rdI] using h2 j
      · simpa [Fpadd, rdI] using h3 i
      · simpa [obk, Fpadd, rdI] using h4 i
      · replace hp : N ((Fpadd S x) 30 27) ≤ p := hp
        have e : (Fpadd S x) 30 27 = nI (N (S 30 27) + 1) := by simp [Fpadd, rdI, e9]
        rw [e, N_nI (by omega)] at hp
        simpa [Fpadd, rdI] using h5 p (by omega)
      · replace hc : N ((Fpadd S x) 30 34) ≤ c := hc
        have e : (Fpadd S x) 30 34 = S 30 34 := by simp [Fpadd, rdI]
        rw [e] at hc
        simpa [Fpadd, rdI] using h6 c hc
      · have e : (Fpadd S x) 30 41 = S 30 41 := by simp [Fpadd, rdI]
        show tr (Fpadd S x) ≤ _
        unfold tr
        rw [e]; omega
    · exact HG.rf h
  · exact HG.rf h
theorem HG_channels {n : Nat} {S : MI} {T : ML} (x z : Int32) (h : HI n S) (hI : Inv n (Hchannels n S T x z).2.2.1) : HG n S (Hchannels n S T x z).2.2.1 := by
  unfold Hchannels at hI ⊢
  split
  · rename_i hc
    rw [if_pos hc] at hI
    split
    · rename_i hc2
      rw [if_pos hc2] at hI
      obtain ⟨h1, h2, h3, h4, h5, h6⟩ := h
      have e9 : S 30 34 + 2 = nI (N (S 30 34) + 2) := by
        conv => lhs; rw [h1.2.2.2.2.1.1.1]
        exact nI_add _ _
      have hm := h1.2.2.2.2.1.1.2
      refine ⟨⟨hI, fun j => ?_, fun i => ?_, fun i => ?_, fun p hp => ?_, fun c hc => ?_⟩, ?_⟩
      · simpa [Fpair, rdI] using h2 j
      · simpa [Fpair, rdI] using h3 i
      · simpa [obk, Fpair, rdI] using h4 i
      · replace hp : N ((Fpair S x z) 30 27) ≤ p := hp
        have e : (Fpair S x z) 30 27 = S 30 27 := by simp [Fpair, rdI]
        rw [e] at hp
        simpa [Fpair, rdI] using h5 p hp
      · replace hc : N ((Fpair S x z) 30 34) ≤ c := hc
        have e : (Fpair S x z) 30 34 = nI (N (S 30 34) + 2) := by simp [Fpair, rdI, e9]
        rw [e, N_nI (by omega)] at hc
        simpa [Fpair, rdI] using h6 c (by omega)
      · have e : (Fpair S x z) 30 41 = S 30 41 := by simp [Fpair, rdI]
        show tr (Fpair S x z) ≤ _
        unfold tr
        rw [e]; omega
    · exact HG.rf h
  · exact HG.rf h
theorem HG_handler {n : Nat} {S : MI} {T : ML} (c k t p : Int32) (h : HI n S) (hI : Inv n (Hhandler S T c k t p).2.2.1) : HG n S (Hhandler S T c k t p).2.2.1 := by
  unfold Hhandler at hI ⊢
  split
  · rename_i hc
    have hcb := (isC_nbt h.1 hc).2
    rw [if_pos hc] at hI
    obtain ⟨h1, h2, h3, h4, h5, h6⟩ := id h
    split
    · rename_i hp
      rw [if_pos hp] at hI
      split
      · rename_i hk
        rw [if_pos hk] at hI
        split
        · rename_i h6'
          rw [if_pos h6'] at hI
          refine ⟨⟨hI, fun j => ?_, fun i => ?_, fun i => ?_, fun p hp => ?_, fun c' hc' => ?_⟩, ?_⟩
          · simpa [Fhadd, rdI] using h2 j
          · simpa [Fhadd, rdI] using h3 i
          · simpa [obk, Fhadd, rdI] using h4 i
          · replace hp : N ((Fhadd S (N c) k t) 30 27) ≤ p := hp
            have e : (Fhadd S (N c) k t) 30 27 = S 30 27 := by simp [Fhadd, rdI]
            rw [e] at hp
            simpa [Fhadd, rdI] using h5 p hp
          · replace hc' : N ((Fhadd S (N c) k t) 30 34) ≤ c' := hc'
            have e : (Fhadd S (N c) k t) 30 34 = S 30 34 := by simp [Fhadd, rdI]
            rw [e] at hc'
            have hne : c' ≠ N c := by omega
            simpa [Fhadd, rdI, hne] using h6 c' hc'
          · have e : (Fhadd S (N c) k t) 30 41 = S 30 41 := by simp [Fhadd, rdI]
            show tr (Fhadd S (N c) k t) ≤ _
            unfold tr
            rw [e]; omega
        · exact HG.rf h
      · exact HG.rf h
    · rename_i hp
      rw [if_neg hp] at hI
      split
      · rename_i hk
        rw [if_pos hk] at hI
        have ne : ∀ {x}, x ≠ 237 → x ≠ 238 → x ≠ 239 → x ≠ 236 → (Fhrem S (N c) (N p)) x = S x := fun a b c d => Fhrem_ne a b c d
        refine ⟨⟨hI, fun j => ?_, fun i => ?_, fun i => ?_, fun p' hp' => ?_, fun c' hc' => ?_⟩, ?_⟩
        · show 0 ≤ (Fhrem S (N c) (N p)) 205 j ∧ (Fhrem S (N c) (N p)) 205 j ≤ 13
          rw [ne (by decide) (by decide) (by decide) (by decide)]; exact h2 j
        · show (Fhrem S (N c) (N p)) 208 i ≠ 4
          rw [ne (by decide) (by decide) (by decide) (by decide)]; exact h3 i
        · show obk (Fhrem S (N c) (N p)) i
          unfold obk
          rw [ne (x := 214) (by decide) (by decide) (by decide) (by decide), ne (x := 216) (by decide) (by decide) (by decide) (by decide), ne (x := 204) (by decide) (by decide) (by decide) (by decide), ne (x := 215) (by decide) (by decide) (by decide) (by decide)]
          exact h4 i
        · have hp2 : N ((Fhrem S (N c) (N p)) 30 27) ≤ p' := hp'
          show (Fhrem S (N c) (N p)) 232 p' = 0
          rw [ne (x := 30) (by decide) (by decide) (by decide) (by decide)] at hp2
          rw [ne (by decide) (by decide) (by decide) (by decide)]
          exact h5 p' hp2
        · have hc2 : N ((Fhrem S (N c) (N p)) 30 34) ≤ c' := hc'
          show (Fhrem S (N c) (N p)) 236 c' = 0
          rw [ne (x := 30) (by decide) (by decide) (by decide) (by decide)] at hc2
          rw [Fhrem_236, if_neg (by omega)]
          exact h6 c' hc2
        · show tr (Fhrem S (N c) (N p)) ≤ _
          unfold tr
          rw [ne (x := 30) (by decide) (by decide) (by decide) (by decide)]
          omega
      · exact HG.rf h
  · exact HG.rf h
theorem HG_execute {n : Nat} {S : MI} {T : ML} (t x : Int32) (h : HI n S) (hb : tr S + 40200 < 2 ^ 31) : HG n S (Hexecute n S T t x).2.2.1 := by
  have key : isT S t ∧ (x = -2 ∨ isL n x) → HG n S (Fput (FtgtS S x) (-1) (N (Hon n S x)) 0 t 0 t) := by
    intro hc
    have g0 := gc_tgtS (T := T) (w := 0) x h.1 (by omega)
    have h0 : HI n (FtgtS S x) := HI_gs (x := (S, T, 0)) (y := (FtgtS S x, T, 0)) h g0.1
    have e0 : tr (FtgtS S x) ≤ tr S := by
      have := g0.2
      simp only [Ph] at this
      omega
    have e3 : (FtgtS S x) 30 3 = S 30 3 := g0.1.2.1.1.2.1
    have ht := Ftgt_ok' h.1 hc.2
    exact HG_gc (x := (FtgtS S x, T, 0)) h0 (gc_put (T := T) (w := 0) (-1) 0 t h0.1 (by omega) (by omega) ht.2 (Or.inr ⟨Or.inl rfl, by rw [e3]; exact isT_nbt h.1 hc.1⟩)) (by simp only; omega)
  unfold Hexecute
  split
  · rename_i hc
    split
    · exact key hc
    · exact key hc
  · exact HG.rf h
theorem HG_timer {n : Nat} {S : MI} {T : ML} (t dl x : Int32) (h : HI n S) (hb : tr S + 40200 < 2 ^ 31) : HG n S (Htimer n S T t dl x).2.2.1 := by
  have key : isT S t ∧ 0 ≤ dl ∧ isL n x → HG n S (Fsch S (-1) (N x) t) := by
    intro hc
    exact HG_gc (x := (S, T, 0)) h (gc_sch (T := T) (T' := T) (w := 0) (-1) h.1 (by omega) (by omega) (isL_nbt h.1.1.2 hc.2.2).2 (isT_nbt h.1 hc.1)) (by simp only; omega)
  unfold Htimer
  split
  · rename_i hc
    split
    · exact key hc
    · exact key hc
  · exact HG.rf h
theorem HG_cancel {n : Nat} {S : MI} {T : ML} (t : Int32) (h : HI n S) : HG n S (Hcancel S T t).2.2.1 := by
  show HG n S (if okCan S t then upI S 226 (N t) (-1) else S)
  split
  · exact HG_cong h (Inv_drop h.1) (by simp [upI_ne]) (by simp [upI_ne]) (by simp [upI_ne]) (by simp [upI_ne]) (by simp [upI_ne]) (by simp [upI_ne]) (by simp [rdI]) (by simp [upI_ne]) (by simp [rdI]) (by simp [upI_ne]) (by simp [rdI])
  · exact HG.rf h
theorem HG_complete {n : Nat} {S : MI} {T : ML} (p how v : Int32) (h : HI n S) (hb : tr S + 40200 < 2 ^ 31) : HG n S (Hcomplete S T p how v).2.2.1 := by
  unfold Hcomplete
  split
  · rename_i hc
    split
    · exact HG_cong h (Inv_pin h.1) (by simp [upI_ne]) (by simp [upI_ne]) (by simp [upI_ne]) (by simp [upI_ne]) (by simp [upI_ne]) (by simp [upI_ne]) (by simp [rdI]) (by simp [upI_ne]) (by simp [rdI]) (by simp [upI_ne]) (by simp [rdI])
    · exact HG_gc (x := (S, T, 0)) h (gc_fin hypD_id (-1) 0 0 (N p) how v (S, T, 0) h.1 (by simp) (isP_nbt h.1 hc.1).2 (fun e => by rw [e] at hc; exact absurd hc.2.1 (by decide)) (by simp only [Ph]; omega)) (by simp only; omega)
  · exact HG.rf h
theorem HG_listen {n : Nat} {S : MI} {T : ML} (p t : Int32) (h : HI n S) (hb : tr S + 40200 < 2 ^ 31) : HG n S (Hlisten S T p t).2.2.1 := by
  unfold Hlisten
  split
  · rename_i hc
    exact HG_gc (x := (S, T, 0)) h (gc_lis hypD_id (-1) 0 0 (N p) (N t) (S, T, 0) h.1 (by simp) (isP_nbt h.1 hc.1).2 (isT_nbt h.1 hc.2.1).2 hc.2.2 (by simp only [Ph]; omega)) (by simp only; omega)
  · exact HG.rf h
theorem HG_fire {n : Nat} {S : MI} {T : ML} (c m : Int32) (h : HI n S) (hb : tr S + 40200 < 2 ^ 31) : HG n S (Hfire S T c m).2.2.1 := by
  have key : isC S c → HG n S (Fput S (-1) (N (S 235 (N c))) 2 c m (-1)) := by
    intro hc
    have hb2 := isC_nbt h.1 hc
    exact HG_gc (x := (S, T, 0)) h (gc_put (T := T) (w := 0) (-1) m (-1) h.1 (by omega) (by omega) (h.1.2.2.2.2.1.2.2 (N c) hb2.2).1.2 (Or.inl ⟨rfl, hb2⟩)) (by simp only; omega)
  unfold Hfire
  split
  · rename_i hc
    split
    · exact key hc
    · exact key hc
  · exact HG.rf h
theorem HG_shutdown {n : Nat} {S : MI} {T : ML} (q t : Int32) (h : HI n S) (hb : tr S + 40200 < 2 ^ 31) : HG n S (Hshutdown n S T q t).2.2.1 := by
  unfold Hshutdown
  split
  · have := h.1.1.2
    exact HG_gc (x := (S, T, 0)) h (gc_shut (T := T) (T' := T) (w := 0) h.1 (by omega) (by omega) n (Nat.le_refl _)) (by simp only; omega)
  · exact HG.rf h
theorem HI_clr {n : Nat} {S : MI} (i m : Nat) (h : HI n S) : HI n (Fclr S i m) :=
  HI_cong h (Inv_clr h.1) (Fclr_ne (by decide)) (Fclr_ne (by decide)) (Fclr_ne (by decide)) (Fclr_ne (by decide)) (Fclr_ne (by decide)) (Fclr_ne (by decide)) (congrFun (Fclr_ne (by decide)) _) (Fclr_ne (by decide)) (congrFun (Fclr_ne (by decide)) _) (Fclr_ne (by decide))
theorem tr_clr {S : MI} (i m : Nat) : tr (Fclr S i m) = tr S := by
  unfold tr
  rw [Fclr_ne (by decide)]
/-- the cells that neither the moving of timers nor the first of the queue changes -/
theorem mv_ne {S : MI} {T : ML} {i x : Nat} (h1 : x ≠ 211) (h2 : x ≠ 212) (h3 : x ≠ 213) (h4 : x ≠ 209) (h5 : x ≠ 226) : Fmv S T i x = S x := by
  unfold Fmv Fenq0
  rw [upI_ne h5, upI_ne h4, upI_ne h3, upI_ne h2, upI_ne h1]
theorem bb_ne {T : ML} {i x : Nat} (h1 : x ≠ 211) (h2 : x ≠ 212) (h3 : x ≠ 213) (h4 : x ≠ 209) (h5 : x ≠ 226) : ∀ m S, Fbb T i m S x = S x
  | 0, S => rfl
  | m + 1, S => by
    unfold Fbb
    split
    · rfl
    · rw [bb_ne h1 h2 h3 h4 h5 m, mv_ne h1 h2 h3 h4 h5]
theorem bbS_ne {S : MI} {T : ML} {i x : Nat} (h1 : x ≠ 211) (h2 : x ≠ 212) (h3 : x ≠ 213) (h4 : x ≠ 209) (h5 : x ≠ 226) (h6 : x ≠ 210) : FbbS S T i x = S x := by
  unfold FbbS
  rw [upI_ne h6, bb_ne h1 h2 h3 h4 h5]
theorem HI_bbS {n : Nat} {S : MI} {T : ML} {i : Nat} (h : HI n S) (hi : i < n) : HI n (FbbS S T i) ∧ tr (FbbS S T i) = tr S := by
  have e : ∀ {x}, x ≠ 211 → x ≠ 212 → x ≠ 213 → x ≠ 209 → x ≠ 226 → x ≠ 210 → FbbS S T i x = S x := fun a b c d e f => bbS_ne a b c d e f
  refine ⟨HI_cong h (Inv_bbS h.1 hi) (e (by decide) (by decide) (by decide) (by decide) (by decide) (by decide)) (e (by decide) (by decide) (by decide) (by decide) (by decide) (by decide)) (e (by decide) (by decide) (by decide) (by decide) (by decide) (by decide)) (e (by decide) (by decide) (by decide) (by decide) (by decide) (by decide)) (e (by decide) (by decide) (by decide) (by decide) (by decide) (by decide)) (e (by decide) (by decide) (by decide) (by decide) (by decide) (by decide)) ?_ (e (by decide) (by decide) (by decide) (by decide) (by decide) (by decide)) ?_ (e (by decide) (by decide) (by decide) (by decide) (by decide) (by decide)), ?_⟩
  · rw [e (by decide) (by decide) (by decide) (by decide) (by decide) (by decide)]
  · rw [e (by decide) (by decide) (by decide) (by decide) (by decide) (by decide)]
  · unfold tr
    rw [e (by decide) (by decide) (by decide) (by decide) (by decide) (by decide)]
theorem HI_deq {n : Nat} {S : MI} {i : Nat} (h : HI n S) (hi : i < n) : HI n (Sbeg S i) ∧ tr (Sbeg S i) = tr S ∧ St S (Sbeg S i) := by
  have e : ∀ {x}, x ≠ 211 → x ≠ 212 → x ≠ 213 → x ≠ 209 → x ≠ 210 → Sbeg S i x = S x := fun a b c d f => by
    unfold Sbeg
    rw [upI_ne f, Fdeq_ne a b c d]
  have e30 : Sbeg S i 30 = S 30 := e (by decide) (by decide) (by decide) (by decide) (by decide)
  refine ⟨HI_cong h (Inv_ba _ (Inv_deq h.1 hi)) (e (by decide) (by decide) (by decide) (by decide) (by decide)) (e (by decide) (by decide) (by decide) (by decide) (by decide)) (e (by decide) (by decide) (by decide) (by decide) (by decide)) (e (by decide) (by decide) (by decide) (by decide) (by decide)) (e (by decide) (by decide) (by decide) (by decide) (by decide)) (e (by decide) (by decide) (by decide) (by decide) (by decide)) (by rw [e30]) (e (by decide) (by decide) (by decide) (by decide) (by decide)) (by rw [e30]) (e (by decide) (by decide) (by decide) (by decide) (by decide)), by unfold tr; rw [e30], ?_⟩
  refine ⟨by rw [e30], by rw [e30], by rw [e30], by rw [e30], ?_, ?_, ?_, ?_, ?_, ?_, ?_, ?_, ?_, ?_⟩ <;> exact e (by decide) (by decide) (by decide) (by decide) (by decide)
theorem HI_log {n : Nat} {S : MI} (a b c : Int32) (h : HI n S) (hb : tr S + 1 < 2 ^ 31) : HI n (Flog S a b c) ∧ tr (Flog S a b c) = tr S + 1 := ⟨HI_gs (x := (S, (fun _ _ => 0), 0)) (y := (Flog S a b c, (fun _ _ => 0), 0)) h (gc_log a b c h.1 (by omega) hb).1, (Inv_log a b c h.1 hb).2⟩
theorem HI_bec5 {n : Nat} {S : MI} {i : Nat} (h : HI n S) (hb : tr S + 2 < 2 ^ 31) : HI n (Fbec (Fbec S i 4) i 5) ∧ tr (Fbec (Fbec S i 4) i 5) = tr S + 2 := by
  obtain ⟨h1, h2, h3, h4, h5, h6⟩ := h
  obtain ⟨a1, a2⟩ := tr_bec (i := i) (s := 4) h1 (by omega) (by decide)
  obtain ⟨b1, b2⟩ := tr_bec (i := i) (s := 5) a1 (by omega) (by decide)
  refine ⟨⟨b1, fun j => ?_, fun j => ?_, fun j => ?_, fun p hp => ?_, fun c hc => ?_⟩, by omega⟩
  · simpa [Fbec, Flog, Rlog, rdI] using h2 j
  · by_cases e : j = i
    · subst e
      simp [Fbec, Flog, Rlog, rdI]
    · simpa [Fbec, Flog, Rlog, rdI, e] using h3 j
  · simpa [obk, Fbec, Flog, Rlog, rdI] using h4 j
  · have hp2 : N (S 30 27) ≤ p := by simpa [Fbec, Flog, Rlog, rdI] using hp
    simpa [Fbec, Flog, Rlog, rdI] using h5 p hp2
  · have hc2 : N (S 30 34) ≤ c := by simpa [Fbec, Flog, Rlog, rdI] using hc
    simpa [Fbec, Flog, Rlog, rdI] using h6 c hc2
theorem HI_unb {n : Nat} {S : MI} {i : Nat} (h : HI n S) : HI n (upI S 214 i 0) ∧ tr (upI S 214 i 0) = tr S := by
  obtain ⟨h1, h2, h3, h4, h5, h6⟩ := h
  refine ⟨⟨Inv_unb h1, fun j => ?_, fun j => ?_, fun j => ?_, fun p hp => ?_, fun c hc => ?_⟩, by simp [tr, rdI]⟩
  · simpa [rdI] using h2 j
  · simpa [rdI] using h3 j
  · by_cases e : j = i
    · subst e
      intro h9
      simp [rdI] at h9
    · simpa [obk, rdI, e] using h4 j
  · have hp2 : N (S 30 27) ≤ p := by simpa [rdI] using hp
    simpa [rdI] using h5 p hp2
  · have hc2 : N (S 30 34) ≤ c := by simpa [rdI] using hc
    simpa [rdI] using h6 c hc2
theorem HG_beg {n : Nat} {S : MI} {T : ML} {i : Nat} (h : HI n S) (hi : i < n) (hq : S 209 i ≠ 0) (hb : tr S + 40200 < 2 ^ 31) : HG n S (Lbeg n S T i).1 := by
  obtain ⟨d1, d2, d3⟩ := HI_deq h hi
  have h8 := h.1.1.2
  have hth : nbt (nI i) n := nbt_i hi (by omega)
  have hQ := (h.1.2.2.2.2.2.2.1 i hi).1
  have hpos : 0 < N (S 209 i) := by
    rcases Nat.eq_zero_or_pos (N (S 209 i)) with q | q
    · exact absurd (hQ.1.1.trans (by rw [q]; rfl)) hq
    · exact q
  have hQ0 := hQ.2 0 hpos
  rw [Nat.add_zero] at hQ0
  unfold Lbeg
  split
  · rename_i h2
    have hc : N (S 212 (24 * i)) < N (S 30 34) := by
      rcases hQ0 with q | q
      · exact q.2.2
      · rw [h2] at q; exact absurd q.1 (by decide)
    obtain ⟨l1, l2⟩ := HI_log (nI i) 1 (-1) d1 (by omega)
    have g0 : St (Sbeg S i) (Flog (Sbeg S i) (nI i) 1 (-1)) := (gc_log (T := Tlast S T i) (w := 0) (nI i) 1 (-1) d1.1 (by omega) (by omega)).1.2.1.1
    exact HG_gc (x := (Flog (Sbeg S i) (nI i) 1 (-1), Tlast S T i, 0)) l1 (gc_topG hth l1.1 (by simp) (by show _ < N ((Flog (Sbeg S i) (nI i) 1 (-1)) 30 34); rw [g0.2.2.2.1, d3.2.2.2.1]; exact hc) (by simp only [Ph]; omega)) (by simp only; omega)
  · rename_i h2
    have ht : N (S 212 (24 * i)) < N (S 30 3) := by
      rcases hQ0 with q | q
      · exact absurd q.1 h2
      · exact q.2.2
    obtain ⟨l1, l2⟩ := HI_log (nI i) (if S 211 (24 * i) = 0 then 1 else 5) (S 212 (24 * i)) d1 (by omega)
    generalize hB : Flog (Sbeg S i) (nI i) (if S 211 (24 * i) = 0 then 1 else 5) (S 212 (24 * i)) = B at l1 l2 ⊢
    have g0 : St (Sbeg S i) B := by rw [← hB]; exact (gc_log (T := Tlast S T i) (w := 0) (nI i) (if S 211 (24 * i) = 0 then 1 else 5) (S 212 (24 * i)) d1.1 (by omega) (by omega)).1.2.1.1
    exact HG_gc (x := (B, Tlast S T i, 0)) l1 (gc_top (x := (B, Tlast S T i, 0)) hth l1.1 (by simp) (by show _ < N (B 30 3); rw [g0.2.1, d3.2.1]; exact ht) (by show 0 + _ ≤ N (B 204 _); rw [g0.2.2.2.2.1, d3.2.2.2.2.1]; omega) (by simp only [Ph]; omega)) (by simp only; omega)
theorem HG_res {n : Nat} {S : MI} {T : ML} {i : Nat} (h : HI n S) (hi : i < n) (hbl : S 214 i = 1) (hb : tr S + 40200 < 2 ^ 31) : HG n S (Lres1 n S T i).1 := by
  obtain ⟨d1, d2⟩ := HI_unb (i := i) h
  have h8 := h.1.1.2
  have hth : nbt (nI i) n := nbt_i hi (by omega)
  obtain ⟨b1, b2, b3⟩ := (h.1.2.2.2.2.2.2.1 i hi).2.1.2 hbl
  obtain ⟨l1, l2⟩ := HI_log (nI i) 10 (S 217 i) d1 (by omega)
  have ho := h.2.2.2.1 i hbl
  have e3 : (Flog (upI S 214 i 0) (nI i) 10 (S 217 i)) 30 3 = S 30 3 := by simp [Flog, Rlog, rdI]
  have e4 : ∀ z, (Flog (upI S 214 i 0) (nI i) 10 (S 217 i)) 204 z = S 204 z := fun z => by simp [Flog, Rlog, rdI]
  exact HG_gc (x := (Flog (upI S 214 i 0) (nI i) 10 (S 217 i), T, 0)) l1 (gc_top hth l1.1 (by simp) (by show _ < N ((Flog (upI S 214 i 0) (nI i) 10 (S 217 i)) 30 3); rw [e3]; exact b1.2) (by show _ ≤ N ((Flog (upI S 214 i 0) (nI i) 10 (S 217 i)) 204 _); rw [e4]; omega) (by simp only [Ph]; omega)) (by simp only; omega)
theorem HG_step1 {n : Nat} {S : MI} {T : ML} {i : Nat} (h : HI n S) (hi : i < n) (hb : tr S + 40200 < 2 ^ 31) : HG n S (Lstep1 n S T i).2.1 := by
  unfold Lstep1
  split
  · rename_i h1
    split
    · exact HG.rf h
    · exact HG_res h hi h1 hb
  · have hX : ∀ X, X = (if S 210 i = 0 then FbbS S T i else S) → HI n X ∧ tr X = tr S := by
      intro X e
      subst e
      split
      · exact HI_bbS h hi
      · exact ⟨h, rfl⟩
    generalize hXe : (if S 210 i = 0 then FbbS S T i else S) = X
    obtain ⟨x1, x2⟩ := hX X hXe.symm
    split
    · split
      · obtain ⟨a, b⟩ := HI_bec5 (i := i) x1 (by omega)
        exact ⟨a, by show tr (Fbec (Fbec X i 4) i 5) ≤ _; omega⟩
      · exact ⟨x1, by show tr X ≤ _; omega⟩
    · rename_i hq
      obtain ⟨a, b⟩ := HG_beg (T := T) x1 hi hq (by omega)
      exact ⟨a, by show tr (Lbeg n X T i).1 ≤ _; omega⟩
theorem HG_step {n : Nat} {S : MI} {T : ML} (x : Int32) (h : HI n S) (hb : tr S + 40200 < 2 ^ 31) : HG n S (Hstep n S T x).2.2.1 := by
  unfold Hstep
  split
  · rename_i hc
    have hi := (isL_nbt h.1.1.2 hc).2
    show HG n S (Lstep n S T (N x)).2.1
    unfold Lstep
    split
    · exact HG.rf h
    · split
      · obtain ⟨a, b⟩ := HG_step1 (T := T) (HI_clr (N x) (N (S 30 23)) h) hi (by rw [tr_clr]; exact hb)
        rw [tr_clr] at b
        exact ⟨a, b⟩
      · exact HG_step1 h hi hb
  · exact HG.rf h
theorem HG_loop {n : Nat} {S : MI} {T : ML} (x what : Int32) (h : HI n S) : HG n S (Hloop n S T x what).2.2.1 := by
  unfold Hloop
  split <;> exact HG.rf h
theorem HG_look {n : Nat} {S : MI} {T : ML} (x what : Int32) (h : HI n S) : HG n S (Hlook S T x what).2.2.1 := by
  unfold Hlook
  split <;> exact HG.rf h
theorem HG_trace {n : Nat} {S : MI} {T : ML} (x what : Int32) (h : HI n S) : HG n S (Htrace S T x what).2.2.1 := by
  unfold Htrace
  split
  · split <;> exact HG.rf h
  · exact HG.rf h
