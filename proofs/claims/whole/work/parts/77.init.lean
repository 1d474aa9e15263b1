/-! ===== the memory behind the constructors ===== -/
def I0 (n : Nat) : MI := fun i => if i < 1000 then (match i with | 30 => (fun j => if j = 1 then nI n else 0) | 208 => st8 | _ => fun _ => 0) else (if (i - 1000) % 10 = 0 then (fun j => if j = 2 then 1 else if j = 4 then -1 else 0) else fun _ => 0)
def L0 : ML := fun _ _ => 0
theorem I0_lid0 (n l : Nat) : I0 n (lid l 0) = fun j => if j = 2 then 1 else if j = 4 then -1 else 0 := by
  unfold I0 lid
  rw [if_neg (by omega), if_pos (by omega)]
theorem I0_lid (n l j : Nat) (h : j < 9) (h0 : j ≠ 0) : I0 n (lid l j) = fun _ => 0 := by
  unfold I0 lid
  rw [if_neg (by omega), if_neg (by omega)]
theorem Inv_I0 {n : Nat} (hn : 1 ≤ n ∧ n ≤ 8) : Inv n (I0 n) := by
  have z : ∀ b, nb (0 : Int32) b := fun b => ⟨rfl, Nat.zero_le b⟩
  have n0 : N (0 : Int32) = 0 := rfl
  refine ⟨hn, rfl, ⟨z _, fun t => z _⟩, ⟨z _, fun p hp => absurd hp (by show ¬ p < 0; omega)⟩, ⟨z _, rfl, fun p hp => absurd hp (by show ¬ p < 0; omega)⟩, ⟨z _, fun p hp => absurd hp (by show ¬ p < 0; omega)⟩, fun l hl => ⟨⟨z _, fun i hi => absurd hi (by show ¬ i < 0; omega)⟩, ⟨Or.inl rfl, fun h => absurd h (by show ¬ (0 : Int32) = 1; decide)⟩, Or.inl ?_⟩, rfl⟩
  show st8 l = 1
  exact if_pos (by omega)
theorem HI_I0 {n : Nat} (hn : 1 ≤ n ∧ n ≤ 8) : HI n (co (I0 n)) := by
  refine ⟨(Inv_co (I0 n)).mpr (Inv_I0 hn), fun j => ?_, fun i => ?_, fun i => ?_, fun p _ => ?_, fun c _ => ?_⟩
  · rw [co_205]; show (0 : Int32) ≤ 0 ∧ (0 : Int32) ≤ 13; decide
  · rw [co_208]
    show ¬ st8 i = 4
    unfold st8
    split <;> decide
  · intro h
    rw [co_214] at h
    exact absurd h (by show ¬ (0 : Int32) = 1; decide)
  · rw [co_232]; rfl
  · rw [co_236]; rfl
theorem CX_I0 {n : Nat} (hn : 1 ≤ n ∧ n ≤ 8) : CX n (co (I0 n)) (coL L0) 0 0 0 (I0 n) L0 (I0 n) L0 := by
  have hc : ∀ l, Fcnt (co (I0 n)) l (N (co (I0 n) 30 23)) = 0 := fun l => rfl
  have cz : ∀ i j, coL L0 i j = 0 := fun i j => by unfold coL L0; split <;> rfl
  refine ⟨⟨⟨rfl, fun i _ => ⟨rfl, rfl, rfl⟩⟩, ⟨rfl, ?_, ?_, ?_, ?_⟩, ⟨rfl, ?_, ?_, ?_, fun p _ => rfl, ?_, ?_⟩, ⟨rfl, rfl, ?_, ?_, ?_, ?_, ?_⟩, ⟨?_, rfl, rfl⟩, fun l hl => ⟨?_, ?_, ?_⟩⟩, (Inv_co (I0 n)).mpr (Inv_I0 hn), ⟨rfl, rfl, rfl⟩, fun _ _ => ⟨rfl, rfl⟩, by omega⟩
  · rw [co_204]; rfl
  · rw [co_205]; rfl
  · rw [co_206]; rfl
  · rw [co_207]; rfl
  · rw [co_228]; rfl
  · rw [co_229]; rfl
  · rw [co_230]; rfl
  · rw [co_232]; rfl
  · rw [co_233]; rfl
  · rw [co_235]; rfl
  · rw [co_236]; rfl
  · rw [co_237]; rfl
  · rw [co_238]; rfl
  · rw [co_239]; rfl
  · rw [cz]; rfl
  · refine ⟨?_, 0, by decide, ?_, fun i hi => ?_⟩
    · rw [co_209, I0_lid n l 1 (by decide) (by decide)]; rfl
    · rw [I0_lid n l 1 (by decide) (by decide)]; rfl
    · rw [co_209] at hi
      exact absurd hi (by show ¬ i < 0; omega)
  · unfold CRm
    rw [hc l]
    refine ⟨?_, by omega, fun k hk => absurd hk (by omega), fun k k' hk => absurd hk (by omega), fun t ht => absurd ht (by show ¬ t < 0; omega)⟩
    rw [I0_lid n l 2 (by decide) (by decide)]; rfl
  · unfold CRl
    rw [I0_lid0, co_208, co_210, co_214]
    have hs : I0 n 208 l = 1 := by
      show st8 l = 1
      exact if_pos (by omega)
    refine ⟨hs.symm, rfl, fun _ => rfl, fun h => absurd h (by show ¬ (0 : Int32) = 1; decide), fun h => ?_⟩
    rw [hs] at h
    exact absurd h (by decide)
theorem LI_I0 {n : Nat} (hn : 1 ≤ n ∧ n ≤ 8) : LI n 0 (I0 n) L0 := ⟨⟨0, CX_I0 hn⟩, HI_I0 hn, by show (0 : Nat) ≤ 0; omega⟩
