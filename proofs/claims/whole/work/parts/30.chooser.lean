theorem i32_div (a b : Int32) (hb : 0 < b.toInt) : (a / b).toInt = a.toInt.tdiv b.toInt := Int32.toInt_div_of_ne_right a b (by intro h; rw [h] at hb; revert hb; decide)
theorem i32_rem (a : Int32) (k : Nat) (h0 : 0 < k) (hk : k < 2 ^ 31) : (a - a / nI k * nI k).toInt = a.toInt.tmod k := by
  have hkI : (nI k).toInt = (k : Int) := nI_toInt hk
  have hd := i32_div a (nI k) (by rw [hkI]; omega)
  rw [hkI] at hd
  have h1 := Int32.toInt_lt a
  have h2 := Int32.le_toInt a
  have hm : a.toInt.tdiv k * k + a.toInt.tmod k = a.toInt := Int.tdiv_mul_add_tmod _ _
  have hlt : a.toInt.tmod k < k := Int.tmod_lt_of_pos _ (by omega)
  have hgt : -(k : Int) < a.toInt.tmod k := by
    rcases Int.lt_or_le a.toInt 0 with q | q
    · have h9 : (-a.toInt).tmod k < k := Int.tmod_lt_of_pos _ (by omega)
      rw [Int.neg_tmod] at h9
      omega
    · have := Int.tmod_nonneg (k : Int) q
      omega
  rw [Int32.toInt_sub, Int32.toInt_mul, hd, hkI]
  generalize a.toInt.tdiv k * k = X at *
  generalize a.toInt.tmod k = t at *
  rw [Int.bmod_def, Int.bmod_def]
  split <;> split <;> omega
theorem Fch_rem {n : Nat} (h0 : 0 < n) (hn : n ≤ 8) (c : Int32) : ∃ j, j < n ∧ (if c - c / nI n * nI n < 0 then -(c - c / nI n * nI n) else c - c / nI n * nI n) = nI j := by
  have hr := i32_rem c n h0 (by omega)
  have hlt : c.toInt.tmod n < n := Int.tmod_lt_of_pos _ (by omega)
  have hgt : -(n : Int) < c.toInt.tmod n := by
    rcases Int.lt_or_le c.toInt 0 with q | q
    · have h9 : (-c.toInt).tmod n < n := Int.tmod_lt_of_pos _ (by omega)
      rw [Int.neg_tmod] at h9
      omega
    · have := Int.tmod_nonneg (n : Int) q
      omega
  generalize c - c / nI n * nI n = r at *
  rw [← hr] at hlt hgt
  by_cases h : r < 0
  · rw [if_pos h]
    have hr0 : r.toInt < 0 := by simpa using Int32.lt_iff_toInt_lt.mp h
    refine ⟨(-r.toInt).toNat, by omega, ?_⟩
    apply Int32.toInt_inj.mp
    rw [nI_toInt (by omega), Int32.toInt_neg, Int.bmod_def]
    split <;> omega
  · rw [if_neg h]
    have hr0 : ¬ r.toInt < 0 := fun q => h (by simpa using Int32.lt_iff_toInt_lt.mpr (by simpa using q))
    refine ⟨r.toInt.toNat, by omega, ?_⟩
    apply Int32.toInt_inj.mp
    rw [nI_toInt (by omega)]
    omega
theorem Fch_lt {n : Nat} (h : 1 ≤ n ∧ n ≤ 8) (c : Int32) : ∃ j, j < n ∧ Fch n c = nI j := by
  have hr := Fch_rem (n := n) (by omega) h.2 c
  unfold Fch
  rcases (show n = 1 ∨ n = 2 ∨ n = 3 ∨ n = 4 ∨ n = 5 ∨ n = 6 ∨ n = 7 ∨ n = 8 by omega) with rfl | rfl | rfl | rfl | rfl | rfl | rfl | rfl
  · rw [if_pos (by decide)]
    exact pk_andE c 0 (by decide)
  · rw [if_pos (by decide)]
    exact pk_andE c 1 (by decide)
  · rw [if_neg (by decide)]
    exact hr
  · rw [if_pos (by decide)]
    exact pk_andE c 2 (by decide)
  · rw [if_neg (by decide)]
    exact hr
  · rw [if_neg (by decide)]
    exact hr
  · rw [if_neg (by decide)]
    exact hr
  · rw [if_pos (by decide)]
    exact pk_andE c 3 (by decide)
theorem peer_nI : ∀ c, c < 16 → nI c ^^^ 1 = nI (c ^^^ 1) := by decide
theorem peer_lt : ∀ c, c < 16 → ∀ k, k < 17 → k % 2 = 0 → c < k → c ^^^ 1 < k := by decide
