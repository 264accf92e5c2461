theorem zpn_1 : ∀ n, n < 11 → ((nI n).toUInt32 &&& Int32.toUInt32 31).toNat % 32 = n := by decide
theorem zpn_2 : ∀ n, n < 11 → (((1 <<< ((nI n) &&& 31)) - 1) ^^^ (-1 : Int32)).toUInt32.toNat = 2 ^ 32 - 2 ^ n := by decide
theorem zpn_z (x : Int32) : x = 0 ↔ x.toUInt32.toNat = 0 := by
  refine ⟨fun h => by rw [h]; decide, fun h => ?_⟩
  have h1 : x.toUInt32 = 0 := UInt32.toNat_inj.mp h
  have h2 := congrArg UInt32.toInt32 h1
  rw [Int32.toInt32_toUInt32] at h2
  rw [h2]
  decide
/-- a set of houses: no bit from n up -/
theorem zpn_s (x : Int32) {n : Nat} (hn : n ≤ 10) : (zush x (nI n) = 0) ↔ x.toUInt32.toNat < 2 ^ n := by
  rw [zpn_z]
  unfold zush
  rw [UInt32.toUInt32_toInt32, UInt32.toNat_shiftRight, zpn_1 n (by omega), Nat.shiftRight_eq_div_pow, Nat.div_eq_zero_iff]
  have : 0 < 2 ^ n := Nat.two_pow_pos n
  omega
theorem zpn_m (x : Int32) {n : Nat} (hn : n ≤ 10) : (x &&& (((1 <<< ((nI n) &&& 31)) - 1) ^^^ (-1)) = 0) ↔ x.toUInt32.toNat < 2 ^ n := by
  rw [zpn_z, Int32.toUInt32_and, UInt32.toNat_and, zpn_2 n (by omega)]
  have hx : x.toUInt32.toNat < 2 ^ 32 := x.toUInt32.toNat_lt
  generalize x.toUInt32.toNat = a at hx
  have hp : 0 < 2 ^ n := Nat.two_pow_pos n
  have hp2 : 2 ^ n ≤ 2 ^ 10 := Nat.pow_le_pow_right (by omega) hn
  have t : ∀ i, (2 ^ 32 - 2 ^ n).testBit i = (decide (i < 32) && !decide (i < n)) := fun i => by
    have := Nat.testBit_two_pow_sub_succ (n := 32) (x := 2 ^ n - 1) (by omega) i
    rw [show 2 ^ n - 1 + 1 = 2 ^ n by omega, Nat.testBit_two_pow_sub_one] at this
    exact this
  refine ⟨fun h => ?_, fun h => ?_⟩
  · by_cases q : a < 2 ^ n
    · exact q
    · obtain ⟨i, hi, hb⟩ := Nat.exists_ge_and_testBit_of_ge_two_pow (Nat.not_lt.mp q)
      have h2 : (a &&& (2 ^ 32 - 2 ^ n)).testBit i = false := by
        rw [h]
        exact Nat.zero_testBit i
      have hi32 : i < 32 := by
        by_cases c : i < 32
        · exact c
        · have := Nat.testBit_lt_two_pow (x := a) (i := i) (Nat.lt_of_lt_of_le hx (Nat.pow_le_pow_right (by omega) (by omega)))
          rw [this] at hb
          cases hb
      rw [Nat.testBit_and, hb, t i, decide_eq_true hi32, decide_eq_false (by omega)] at h2
      cases h2
  · refine Nat.eq_of_testBit_eq fun i => ?_
    rw [Nat.testBit_and, t i, Nat.zero_testBit]
    by_cases c : i < n
    · rw [decide_eq_true c]
      simp
    · rw [Nat.testBit_lt_two_pow (Nat.lt_of_lt_of_le h (Nat.pow_le_pow_right (by omega) (by omega)))]
      rfl
