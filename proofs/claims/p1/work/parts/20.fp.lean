/-! Doubles: sums of whole numbers, and a quotient of two. -/
theorem fp_add {a b : Nat} (ha : a < 1000000) (hb : b < 1000000) : FP.dadd (FP.i2d (nI a)) (FP.i2d (nI b)) = FP.i2d (nI (a + b)) := by
  rcases Nat.eq_zero_or_pos (a + b) with h | h
  · have h1 : a = 0 := by omega
    have h2 : b = 0 := by omega
    subst h1
    subst h2
    decide +kernel
  · have e1 : (nI a).toInt = (a : Int) := nI_toInt (by omega)
    have e2 : (nI b).toInt = (b : Int) := nI_toInt (by omega)
    have e3 : (nI (a + b)).toInt = ((a + b : Nat) : Int) := nI_toInt (by omega)
    have d1 := Jvm.FP.Core.i2d_int (nI a)
    have d2 := Jvm.FP.Core.i2d_int (nI b)
    have d3 := Jvm.FP.Core.i2d_int (nI (a + b))
    rw [e1] at d1
    rw [e2] at d2
    rw [e3] at d3
    have d4 := Jvm.FP.Core.dadd_int d1 d2 (by omega)
    have e4 : ((a : Int) + (b : Int)) = ((a + b : Nat) : Int) := by omega
    rw [e4] at d4
    exact Jvm.FP.Core.dint_unique (by omega) d4 d3
theorem fp_0 : (0 : UInt64) = FP.i2d (nI 0) := by decide +kernel
def mcq (a b : Nat) : UInt64 := FP.ddiv (FP.i2d (nI a)) (FP.i2d (nI b))
theorem fp_q0 : ∀ a, a < 101 → ∀ b, b < 6 → (mcq (a + 0) (b + 1) &&& 0x7fffffffffffffff ≤ 0x7ff0000000000000) ∧ FP.dsub (mcq (a + 0) (b + 1)) (mcq (a + 0) (b + 1)) = 0 := by decide +kernel
theorem fp_q1 : ∀ a, a < 101 → ∀ b, b < 6 → (mcq (a + 100) (b + 1) &&& 0x7fffffffffffffff ≤ 0x7ff0000000000000) ∧ FP.dsub (mcq (a + 100) (b + 1)) (mcq (a + 100) (b + 1)) = 0 := by decide +kernel
theorem fp_q2 : ∀ a, a < 101 → ∀ b, b < 6 → (mcq (a + 200) (b + 1) &&& 0x7fffffffffffffff ≤ 0x7ff0000000000000) ∧ FP.dsub (mcq (a + 200) (b + 1)) (mcq (a + 200) (b + 1)) = 0 := by decide +kernel
theorem fp_q3 : ∀ a, a < 101 → ∀ b, b < 6 → (mcq (a + 300) (b + 1) &&& 0x7fffffffffffffff ≤ 0x7ff0000000000000) ∧ FP.dsub (mcq (a + 300) (b + 1)) (mcq (a + 300) (b + 1)) = 0 := by decide +kernel
theorem fp_q4 : ∀ a, a < 101 → ∀ b, b < 6 → (mcq (a + 400) (b + 1) &&& 0x7fffffffffffffff ≤ 0x7ff0000000000000) ∧ FP.dsub (mcq (a + 400) (b + 1)) (mcq (a + 400) (b + 1)) = 0 := by decide +kernel
theorem fp_q5 : ∀ a, a < 101 → ∀ b, b < 6 → (mcq (a + 500) (b + 1) &&& 0x7fffffffffffffff ≤ 0x7ff0000000000000) ∧ FP.dsub (mcq (a + 500) (b + 1)) (mcq (a + 500) (b + 1)) = 0 := by decide +kernel
theorem fp_q {a b : Nat} (ha : a ≤ 600) (h0 : 0 < b) (hb : b ≤ 6) : vf_n64 (mcq a b) ∧ FP.dsub (mcq a b) (mcq a b) = 0 := by
  obtain ⟨b, rfl⟩ : ∃ c, b = c + 1 := ⟨b - 1, by omega⟩
  by_cases h1 : a < 101
  · exact fp_q0 a h1 b (by omega)
  · by_cases h2 : a < 201
    · have := fp_q1 (a - 100) (by omega) b (by omega); rwa [show a - 100 + 100 = a by omega] at this
    · by_cases h3 : a < 301
      · have := fp_q2 (a - 200) (by omega) b (by omega); rwa [show a - 200 + 200 = a by omega] at this
      · by_cases h4 : a < 401
        · have := fp_q3 (a - 300) (by omega) b (by omega); rwa [show a - 300 + 300 = a by omega] at this
        · by_cases h5 : a < 501
          · have := fp_q4 (a - 400) (by omega) b (by omega); rwa [show a - 400 + 400 = a by omega] at this
          · have := fp_q5 (a - 500) (by omega) b (by omega); rwa [show a - 500 + 500 = a by omega] at this
