theorem wi_car (c : Int32) : isWi c 0 4 = isCar c := by
  have h : (4 : Int32) < c ↔ 5 ≤ c := by
    rw [Int32.lt_iff_toInt_lt, Int32.le_iff_toInt_le]
    have e4 : (4 : Int32).toInt = 4 := rfl
    have e5 : (5 : Int32).toInt = 5 := rfl
    rw [e4, e5]
    omega
  by_cases h1 : c < 0 <;> by_cases h2 : 5 ≤ c <;> simp [isWi, isCar, h1, h2, h]
theorem car_nI {c : Int32} (h : isCar c = true) : ∃ n : Nat, n < 5 ∧ c = nI n := vp_in_of (vin_car h) (by decide)
theorem car_of {n : Nat} (h : n < 5) : isCar (nI n) = true := by
  rcases (show n = 0 ∨ n = 1 ∨ n = 2 ∨ n = 3 ∨ n = 4 by omega) with rfl | rfl | rfl | rfl | rfl <;> decide
theorem pair_nI {a b : Int32} (ha : isCar a = true) (hb : isCar b = true) : ∃ m n : Nat, m < 5 ∧ n < 5 ∧ a = nI m ∧ b = nI n ∧ 5 * a + b = nI (5 * m + n) := by
  obtain ⟨m, hm, rfl⟩ := car_nI ha
  obtain ⟨n, hn, rfl⟩ := car_nI hb
  exact ⟨m, n, hm, hn, rfl, rfl, by rw [show (5 : Int32) = nI 5 from rfl, pk_mul, nI_add]⟩
theorem vin_pair {a b : Int32} (ha : isCar a = true) (hb : isCar b = true) : vp_in (5 * a + b) 25 := by
  obtain ⟨m, n, hm, hn, -, -, e⟩ := pair_nI ha hb
  rw [e]
  exact vp_in_nI (by omega) (by decide)
