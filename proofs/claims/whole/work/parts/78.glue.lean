/-! ===== what the constructors made is the world ===== -/
theorem va_sub {A : Nat → Prop} {D : va_G} {cl : List vw_C} {H : Heap} {ids1 ids2 : List Nat} {a : Nat → Nat} {f : Nat → va_E} (hP : va_P D cl (ids1.map (fun i => (a i, f i))) H) (hD : va_D A (ids1.map (fun i => (a i, f i)))) (hs : ∀ i ∈ ids2, i ∈ ids1) (hn : ids2.Nodup) : va_P D cl (ids2.map (fun i => (a i, f i))) H ∧ va_D A (ids2.map (fun i => (a i, f i))) := by
  have at1 : ∀ i ∈ ids1, ∃ k : Nat, ids1[k]? = some i ∧ (ids1.map (fun i => (a i, f i)))[k]? = some (a i, f i) := fun i hi => by
    obtain ⟨k, hk⟩ := List.getElem?_of_mem hi
    exact ⟨k, hk, by rw [List.getElem?_map, hk]; rfl⟩
  have at2 : ∀ (k : Nat) (q : Nat × va_E), (ids2.map (fun i => (a i, f i)))[k]? = some q → ∃ i, ids2[k]? = some i ∧ q = (a i, f i) := fun k q h => by
    rw [List.getElem?_map] at h
    cases hk : ids2[k]? with
    | none => rw [hk] at h; cases h
    | some i => rw [hk] at h; exact ⟨i, rfl, (Option.some.inj h).symm⟩
  refine ⟨fun k q h => ?_, fun i j y z hy hz e => ?_, fun k q h => ?_⟩
  · obtain ⟨i, h1, rfl⟩ := at2 k q h
    obtain ⟨k1, -, h2⟩ := at1 i (hs i (List.mem_of_getElem? h1))
    exact hP k1 _ h2
  · obtain ⟨u, h1, rfl⟩ := at2 i y hy
    obtain ⟨v, h2, rfl⟩ := at2 j z hz
    obtain ⟨k1, g1, g2⟩ := at1 u (hs u (List.mem_of_getElem? h1))
    obtain ⟨k2, g3, g4⟩ := at1 v (hs v (List.mem_of_getElem? h2))
    have hk := hD.1 k1 k2 _ _ g2 g4 e
    subst hk
    have huv : u = v := Option.some.inj (g1.symm.trans g3)
    subst huv
    obtain ⟨hi, ei⟩ := List.getElem?_eq_some_iff.mp h1
    obtain ⟨hj, ej⟩ := List.getElem?_eq_some_iff.mp h2
    have hpw := List.pairwise_iff_getElem.mp hn
    rcases Nat.lt_trichotomy i j with h | h | h
    · exact absurd (ei.trans ej.symm) (hpw i j hi hj h)
    · exact h
    · exact absurd (ej.trans ei.symm) (hpw j i hj hi h)
  · obtain ⟨i, h1, rfl⟩ := at2 k q h
    obtain ⟨k1, -, h2⟩ := at1 i (hs i (List.mem_of_getElem? h1))
    exact hD.2 k1 _ h2
def ord9 : List Nat := [0, 1, 3, 4, 5, 2, 6, 7, 8]
def idsA : List Nat := [0, 1, 4, 340, 341, 342, 343, 5, 350, 351, 352, 353, 354, 355, 6, 360, 361, 362, 363, 364, 2, 3, 330, 321]
def idsR : List Nat := [30, 204, 205, 206, 207, 208, 209, 210, 211, 212, 213, 214, 215, 216, 217, 218, 219, 220, 221, 224, 225, 226, 228, 229, 230, 231, 232, 233, 235, 236, 237, 238, 239, 242, 243, 244, 246, 247, 248, 249, 250]
def idsT (n : Nat) : List Nat := idsA ++ ((List.range n).flatMap (fun l => ord9.map (lid l)) ++ (idsR ++ [90]))
theorem idsT_in {n : Nat} (hn : n ≤ 8) : ∀ i ∈ vq_ids n, i ∈ idsT n := by
  rcases (show n = 0 ∨ n = 1 ∨ n = 2 ∨ n = 3 ∨ n = 4 ∨ n = 5 ∨ n = 6 ∨ n = 7 ∨ n = 8 by omega) with rfl | rfl | rfl | rfl | rfl | rfl | rfl | rfl | rfl <;> decide +kernel
theorem ids_nd {n : Nat} (hn : n ≤ 8) : (vq_ids n).Nodup := by
  rcases (show n = 0 ∨ n = 1 ∨ n = 2 ∨ n = 3 ∨ n = 4 ∨ n = 5 ∨ n = 6 ∨ n = 7 ∨ n = 8 by omega) with rfl | rfl | rfl | rfl | rfl | rfl | rfl | rfl | rfl <;> decide +kernel
/-- the addresses by number -/
def aF (x r9 k k0 k1 k2 k3 p9 p0 p1 p2 p3 p4 p5 c9 c0 c1 c2 c3 c4 s9 t0 t1 la o mr : Nat) (b : Nat → Nat) : Nat → Nat
  | 0 => x
  | 1 => r9
  | 4 => k
  | 340 => k0
  | 341 => k1
  | 342 => k2
  | 343 => k3
  | 5 => p9
  | 350 => p0
  | 351 => p1
  | 352 => p2
  | 353 => p3
  | 354 => p4
  | 355 => p5
  | 6 => c9
  | 360 => c0
  | 361 => c1
  | 362 => c2
  | 363 => c3
  | 364 => c4
  | 2 => s9
  | 3 => t0
  | 330 => t1
  | 321 => la
  | 90 => o
  | 30 => mr
  | i => b i
def aA (bl : List (Nat → Nat)) (g : Nat → Nat) : Nat → Nat := fun i => if i < 1000 then g i else bl.getD ((i - 1000) / 10) (fun _ => 0) ((i - 1000) % 10)
theorem aA_lid (bl : List (Nat → Nat)) (g : Nat → Nat) (l j : Nat) (hj : j < 9) : aA bl g (lid l j) = bl.getD l (fun _ => 0) j := by
  unfold aA lid
  rw [if_neg (by omega), show (1000 + 10 * l + j - 1000) / 10 = l by omega, show (1000 + 10 * l + j - 1000) % 10 = j by omega]
theorem LW_eq (n : Nat) (cs : vq_S) (bl : List (Nat → Nat)) (g : Nat → Nat) (l : Nat) : (ord9.map (lid l)).map (fun i => (aA bl g i, vq_ct n (aA bl g) cs (I0 n) L0 i)) = LW cs (bl.getD l (fun _ => 0)) := by
  have e : ∀ j, j < 9 → aA bl g (lid l j) = bl.getD l (fun _ => 0) j := fun j hj => aA_lid bl g l j hj
  generalize bl.getD l (fun _ => 0) = b at e
  have c0 : vq_ct n (aA bl g) cs (I0 n) L0 (lid l 0) = .inr (1, fsL b) := by
    rw [vq_ctO (ci := 1) (gk_lid l 0 (by decide)) (by decide)]
    simp only [vq_fk, vq_fl, vq_val, I0_lid0, L0, gr_lid l 0 _ (show 0 < 9 by decide), grL, Option.map_some, va_rf, e 1 (by decide), e 2 (by decide)]
    rfl
  have c1 : vq_ct n (aA bl g) cs (I0 n) L0 (lid l 1) = .inr (3, [.ref (b 3), .ref (b 4), .ref (b 5), .int 0, .int 0]) := by
    rw [vq_ctO (ci := 3) (gk_lid l 1 (by decide)) (by decide)]
    simp only [vq_fk, vq_fl, vq_val, I0_lid n l 1 (by decide) (by decide), L0, gr_lid l 1 _ (show 1 < 9 by decide), grL, Option.map_some, va_rf, e 3 (by decide), e 4 (by decide), e 5 (by decide)]
    rfl
  have c2 : vq_ct n (aA bl g) cs (I0 n) L0 (lid l 2) = .inr (7, [.ref (b 6), .ref (b 7), .ref (b 8), .int 0]) := by
    rw [vq_ctO (ci := 7) (gk_lid l 2 (by decide)) (by decide)]
    simp only [vq_fk, vq_fl, vq_val, I0_lid n l 2 (by decide) (by decide), L0, gr_lid l 2 _ (show 2 < 9 by decide), grL, Option.map_some, va_rf, e 6 (by decide), e 7 (by decide), e 8 (by decide)]
    rfl
  have ci : ∀ j, j < 9 → j ≠ 0 → gkL j = 20 → vq_ct n (aA bl g) cs (I0 n) L0 (lid l j) = zI cs 24 := fun j hj h0 hk => by
    unfold vq_ct
    rw [if_pos ((gk_lid l j hj).trans hk), gl_lid, I0_lid n l j hj h0]
    rfl
  have c8 : vq_ct n (aA bl g) cs (I0 n) L0 (lid l 8) = zL cs 24 := by
    have hk : gk (lid l 8) = 21 := gk_lid l 8 (by decide)
    rw [vq_ct21 hk, gl_lid]
    rfl
  simp only [ord9, List.map_cons, List.map_nil, e 0 (by decide), e 1 (by decide), e 2 (by decide), e 3 (by decide), e 4 (by decide), e 5 (by decide), e 6 (by decide), e 7 (by decide), e 8 (by decide), c0, c1, c2, c8, ci 3 (by decide) (by decide) rfl, ci 4 (by decide) (by decide) rfl, ci 5 (by decide) (by decide) rfl, ci 6 (by decide) (by decide) rfl, ci 7 (by decide) (by decide) rfl]
  rfl
theorem flat_eq (cs : vq_S) (bl : List (Nat → Nat)) (F : Nat → va_W) (h : ∀ l, F l = LW cs (bl.getD l (fun _ => 0))) : (List.range bl.length).flatMap F = bl.flatMap (LW cs) := by
  have e1 : F = fun l => LW cs (bl.getD l (fun _ => 0)) := funext h
  rw [e1]
  have e2 : (List.range bl.length).map (fun l => bl.getD l (fun _ => 0)) = bl := by
    apply List.ext_getElem?
    intro i
    rw [List.getElem?_map]
    by_cases hi : i < bl.length
    · rw [List.getElem?_range hi]
      simp [hi]
    · rw [List.getElem?_eq_none (by simp only [List.length_range]; omega), List.getElem?_eq_none (by omega)]
      rfl
  conv => rhs; rw [← e2]
  rw [List.flatMap_map]
theorem at_la {D : va_G} {cs : vq_S} {n la : Nat} {f g : Nat → Option Nat} {H : Heap} (h : va_at D vwCl (la, zR cs n f) H) (e : ∀ j, j < n → f j = g j) : va_at D vwCl (la, zR cs n g) H := by
  have h1 : H[la]? = some (vp_cell cs.2.2.2 (n, .inr (.inr (.inr (.inr f))))) := h
  show H[la]? = some (vp_cell cs.2.2.2 (n, .inr (.inr (.inr (.inr g)))))
  rw [h1]
  congr 1
  rw [vp_cell_q, vp_cell_q]
  unfold arrV
  congr 2
  funext j
  show va_rf (f j.val) = va_rf (g j.val)
  rw [e j.val j.isLt]
set_option maxHeartbeats 4000000 in
set_option maxRecDepth 20000 in
theorem glue {A : Nat → Prop} {D : va_G} {cs : vq_S} {H : Heap} {n : Nat} {x r9 k k0 k1 k2 k3 p9 p0 p1 p2 p3 p4 p5 c9 c0 c1 c2 c3 c4 s9 t0 t1 la o mr : Nat} {b : Nat → Nat} {f : Nat → Option Nat} {bl : List (Nat → Nat)} (hn : n ≤ 8) (hb : bl.length = n) (hf : ∀ j, j < n → f j = some (bl.getD j (fun _ => 0) 0))
    (hP : va_P D vwCl ([(x, .inr (9, [.ref r9, .ref s9, .ref t0, .ref k, .ref p9, .ref c9])), (r9, .inr (4, [.ref k, .ref p9, .ref c9, .ref s9, .ref t0, .int 0, .int 0, .int 0])), (k, .inr (6, [.ref k0, .ref k1, .ref k2, .ref k3, .int 0])), (k0, zI cs 24), (k1, zI cs 192), (k2, zI cs 192), (k3, zI cs 192), (p9, .inr (2, [.ref p0, .ref p1, .ref p2, .ref p3, .ref p4, .ref p5, .int 0])), (p0, zI cs 32), (p1, zI cs 32), (p2, zI cs 32), (p3, zZ cs 32), (p4, zI cs 32), (p5, zI cs 192), (c9, .inr (0, [.ref c0, .ref c1, .ref c2, .ref c3, .ref c4, .int 0, .int 0])), (c0, zI cs 16), (c1, zI cs 16), (c2, zI cs 96), (c3, zI cs 96), (c4, zI cs 96), (s9, .inr (5, [.ref t0, .ref la, .long 0, .int 0, .int 0])), (t0, .inr (8, [.ref t1, .int 0])), (t1, zI cs 900)] ++ ((la, zR cs n f) :: bl.flatMap (LW cs)) ++ ((mr, .inr (10, fs10 n b)) :: tl10 cs b) ++ [(o, zL cs 1)]) H) (hD : va_D A ([(x, .inr (9, [.ref r9, .ref s9, .ref t0, .ref k, .ref p9, .ref c9])), (r9, .inr (4, [.ref k, .ref p9, .ref c9, .ref s9, .ref t0, .int 0, .int 0, .int 0])), (k, .inr (6, [.ref k0, .ref k1, .ref k2, .ref k3, .int 0])), (k0, zI cs 24), (k1, zI cs 192), (k2, zI cs 192), (k3, zI cs 192), (p9, .inr (2, [.ref p0, .ref p1, .ref p2, .ref p3, .ref p4, .ref p5, .int 0])), (p0, zI cs 32), (p1, zI cs 32), (p2, zI cs 32), (p3, zZ cs 32), (p4, zI cs 32), (p5, zI cs 192), (c9, .inr (0, [.ref c0, .ref c1, .ref c2, .ref c3, .ref c4, .int 0, .int 0])), (c0, zI cs 16), (c1, zI cs 16), (c2, zI cs 96), (c3, zI cs 96), (c4, zI cs 96), (s9, .inr (5, [.ref t0, .ref la, .long 0, .int 0, .int 0])), (t0, .inr (8, [.ref t1, .int 0])), (t1, zI cs 900)] ++ ((la, zR cs n f) :: bl.flatMap (LW cs)) ++ ((mr, .inr (10, fs10 n b)) :: tl10 cs b) ++ [(o, zL cs 1)])) :
    ∃ a : Nat → Nat, a 0 = x ∧ a 30 = mr ∧ a 90 = o ∧ va_P D vwCl (vq_W n a cs (I0 n) L0) H ∧ va_D A (vq_W n a cs (I0 n) L0) := by
  subst hb
  generalize hae : aA bl (aF x r9 k k0 k1 k2 k3 p9 p0 p1 p2 p3 p4 p5 c9 c0 c1 c2 c3 c4 s9 t0 t1 la o mr b) = a
  have hg : ∀ l, (ord9.map (lid l)).map (fun i => (a i, vq_ct bl.length a cs (I0 bl.length) L0 i)) = LW cs (bl.getD l (fun _ => 0)) := fun l => by rw [← hae]; exact LW_eq bl.length cs bl _ l
  have e1 : ((List.range bl.length).flatMap (fun l => ord9.map (lid l))).map (fun i => (a i, vq_ct bl.length a cs (I0 bl.length) L0 i)) = bl.flatMap (LW cs) := by
    rw [List.map_flatMap]
    exact flat_eq cs bl _ hg
  have hT : (idsT bl.length).map (fun i => (a i, vq_ct bl.length a cs (I0 bl.length) L0 i)) = [(x, .inr (9, [.ref r9, .ref s9, .ref t0, .ref k, .ref p9, .ref c9])), (r9, .inr (4, [.ref k, .ref p9, .ref c9, .ref s9, .ref t0, .int 0, .int 0, .int 0])), (k, .inr (6, [.ref k0, .ref k1, .ref k2, .ref k3, .int 0])), (k0, zI cs 24), (k1, zI cs 192), (k2, zI cs 192), (k3, zI cs 192), (p9, .inr (2, [.ref p0, .ref p1, .ref p2, .ref p3, .ref p4, .ref p5, .int 0])), (p0, zI cs 32), (p1, zI cs 32), (p2, zI cs 32), (p3, zZ cs 32), (p4, zI cs 32), (p5, zI cs 192), (c9, .inr (0, [.ref c0, .ref c1, .ref c2, .ref c3, .ref c4, .int 0, .int 0])), (c0, zI cs 16), (c1, zI cs 16), (c2, zI cs 96), (c3, zI cs 96), (c4, zI cs 96), (s9, .inr (5, [.ref t0, .ref la, .long 0, .int 0, .int 0])), (t0, .inr (8, [.ref t1, .int 0])), (t1, zI cs 900)] ++ ((la, zR cs bl.length (fun j => some (a (lid j 0)))) :: bl.flatMap (LW cs)) ++ ((mr, .inr (10, fs10 bl.length b)) :: tl10 cs b) ++ [(o, zL cs 1)] := by
    unfold idsT
    rw [List.map_append, List.map_append, List.map_append, e1, ← hae]
    simp only [List.append_assoc]
    rfl
  have hex : ∀ (u v : va_W) (q q' : Nat × va_E), q.1 = q'.1 → va_D A (u ++ (q :: v)) → va_D A (u ++ (q' :: v)) := by
    intro u v q q' hq h
    have key : ∀ (k : Nat) (z : Nat × va_E), (u ++ (q' :: v))[k]? = some z → ∃ z', (u ++ (q :: v))[k]? = some z' ∧ z'.1 = z.1 := by
      intro k z hz
      by_cases h1 : k < u.length
      · rw [List.getElem?_append_left h1] at hz ⊢
        exact ⟨z, hz, rfl⟩
      · rw [List.getElem?_append_right (by omega)] at hz ⊢
        cases hk : k - u.length with
        | zero =>
          rw [hk] at hz
          simp only [List.getElem?_cons_zero, Option.some.injEq] at hz ⊢
          exact ⟨q, rfl, by rw [← hz]; exact hq⟩
        | succ r =>
          rw [hk] at hz
          simp only [List.getElem?_cons_succ] at hz ⊢
          exact ⟨z, hz, rfl⟩
    refine ⟨fun i j y z hy hz e => ?_, fun k z hz => ?_⟩
    · obtain ⟨y', g1, g2⟩ := key i y hy
      obtain ⟨z', g3, g4⟩ := key j z hz
      exact h.1 i j y' z' g1 g3 (by rw [g2, g4, e])
    · obtain ⟨z', g1, g2⟩ := key k z hz
      rw [← g2]
      exact h.2 k z' g1
  have hexP : ∀ (u v : va_W) (q q' : Nat × va_E), (va_at D vwCl q H → va_at D vwCl q' H) → va_P D vwCl (u ++ (q :: v)) H → va_P D vwCl (u ++ (q' :: v)) H := by
    intro u v q q' hq h k z hz
    by_cases h1 : k < u.length
    · refine h k z ?_
      rw [List.getElem?_append_left h1] at hz ⊢
      exact hz
    · have h2 := h k
      rw [List.getElem?_append_right (by omega)] at hz h2
      cases hk : k - u.length with
      | zero =>
        rw [hk] at hz h2
        simp only [List.getElem?_cons_zero, Option.some.injEq] at hz
        rw [← hz]
        exact hq (h2 q rfl)
      | succ r =>
        rw [hk] at hz h2
        exact h2 z hz
  simp only [List.append_assoc] at hP hD
  have hla : ∀ j, j < bl.length → f j = some (a (lid j 0)) := fun j hj => by
    rw [hf j hj, ← hae, aA_lid _ _ j 0 (by decide)]
  have hP' := hexP _ _ (la, zR cs bl.length f) (la, zR cs bl.length (fun j => some (a (lid j 0)))) (fun h => at_la h hla) hP
  have hD' := hex _ _ (la, zR cs bl.length f) (la, zR cs bl.length (fun j => some (a (lid j 0)))) rfl hD
  simp only [List.append_assoc] at hT
  refine ⟨a, by rw [← hae]; rfl, by rw [← hae]; rfl, by rw [← hae]; rfl, ?_⟩
  exact va_sub (f := fun i => vq_ct bl.length a cs (I0 bl.length) L0 i) (by rw [hT]; exact hP') (by rw [hT]; exact hD') (idsT_in hn) (ids_nd hn)
