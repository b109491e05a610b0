/-! ===== sets of floors: numbers below 256 ===== -/
theorem sp_bits : ∀ a, a < 256 → ∀ i, i < 8 → ((nI a >>> (nI i &&& 31)) &&& nI 1 = nI 1 ↔ a.testBit i = true) := by decide +kernel
theorem sp_bit1 {a i : Nat} (ha : a < 256) (hi : i < 8) (h : (nI a >>> (nI i &&& 31)) &&& nI 1 = nI 1) : a.testBit i = true := (sp_bits a ha i hi).mp h
theorem sp_bit0 {a i : Nat} (ha : a < 256) (hi : i < 8) (h : ¬ (nI a >>> (nI i &&& 31)) &&& nI 1 = nI 1) : a.testBit i = false := Bool.eq_false_iff.mpr fun q => h ((sp_bits a ha i hi).mpr q)
theorem sp_bor : ∀ a, a < 256 → ∀ i, i < 8 → nI a ||| (nI 1 <<< (nI i &&& 31)) = nI (a ||| 2 ^ i) := by decide +kernel
theorem sp_boff : ∀ a, a < 256 → ∀ i, i < 8 → nI a &&& ((nI 1 <<< (nI i &&& 31)) ^^^ (-1)) = nI (a &&& (255 - 2 ^ i)) := by decide +kernel
theorem sp_toff : ∀ a, a < 256 → ∀ i, i < 8 → ∀ j, j < 8 → (a &&& (255 - 2 ^ i)).testBit j = (a.testBit j && !decide (j = i)) := by decide +kernel
theorem sp_ton (a i j : Nat) : (a ||| 2 ^ i).testBit j = (a.testBit j || decide (i = j)) := by rw [Nat.testBit_or, Nat.testBit_two_pow]
theorem sp_bitn {a n j : Nat} (h : a < 2 ^ n) (hj : n ≤ j) : a.testBit j = false := Nat.testBit_lt_two_pow (Nat.lt_of_lt_of_le h (Nat.pow_le_pow_right (by decide) hj))
