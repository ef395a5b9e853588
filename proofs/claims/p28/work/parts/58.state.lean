/-! The house that the law begins with, and what the claim gives at the start. -/
def fC1 : CS := adC f0 (nI 0)
def fC2 : CS := adC fC1 (nI 1)
def fA : CS := adC fC2 (nI 0)
def fD1 : CS := gset fA 0 2 (nI (nD fA + 1))
def fD2 : CS := gset fD1 0 2 (nI (nD fD1 + 1))
def fT1 : CS := adT fD2 (nI 0) (nI 0) (nI 2)
def fT2 : CS := adT fT1 (nI 1) (nI 0) (nI 2)
def fT3 : CS := adT fT2 (nI 2) (nI 0) (nI 2)
def fT4 : CS := adT fT3 (nI 0) (nI 1) (nI 2)
def fT5 : CS := adT fT4 (nI 1) (nI 1) (nI 2)
def fB : CS := adT fT5 (nI 2) (nI 1) (nI 3)
theorem fB_I : gI fB := by unfold gI; decide +kernel
theorem fB_n : nT fB = 6 ∧ nC fB = 3 ∧ nD fB = 2 ∧ fB 0 3 = nI 0 := by decide +kernel
theorem fB_t : ∀ t, t < 6 → fB 2 t = nI (t % 3) ∧ fB 3 t = nI (t / 3) ∧ fB 4 t = nI (if t < 5 then 2 else 3) ∧ fB 5 t = nI 0 ∧ pcn (fB 6 t) ≤ 2 ∧ pcn (fB 7 t) ≤ 2 := by decide +kernel
theorem fB_67 : ∀ t, t < 24 → fB 6 t = nI 0 ∧ fB 7 t = nI 0 := by decide +kernel
theorem fB_d : ∀ j, j < 6 → ∀ k, k < 6 → fB 2 j = fB 2 k → fB 3 j = fB 3 k → j = k := by decide +kernel
theorem fB_x : ∀ t, t < 18 → fB 12 t = nI 0 ∧ nL fB t = 0 := by decide +kernel
theorem fB_k : ∀ g, g < 3 → ∀ x, x < 20 → fB (60 + g) x = 0 := by decide +kernel
theorem fB_J : J fB 0 := by
  obtain ⟨n1, n2, n3, n4⟩ := fB_n
  refine ⟨⟨fB_I, ?_, ⟨?_, ?_⟩, ?_, ?_, ?_, ?_⟩, ?_, ?_⟩
  · unfold jN
    rw [n1, n2, n3, n4]
    decide
  · intro t ht
    rw [n1] at ht
    obtain ⟨e2, e3, e4, e5, e6, e7⟩ := fB_t t ht
    refine ⟨t % 3, t / 3, if t < 5 then 2 else 3, 0, by rw [n2]; omega, by omega, by split <;> omega, by omega, e2, e3, e4, e5, fun z => absurd z (by decide), fun _ => ⟨e6, e7⟩⟩
  · intro t _ ht
    exact fB_67 t ht
  · intro j k hj hk h2 h3 _
    rw [n1] at hj hk
    exact fB_d j hj k hk h2 h3
  · intro j k hj hk _ _ h5 _
    rw [n1] at hj
    rw [(fB_t j hj).2.2.2.1] at h5
    exact absurd h5 (by decide)
  · intro g hg x hx k hk
    rw [fB_k g hg x hx]
    constructor
    · intro z
      rw [hs_iff hk] at z
      simp at z
    · rintro ⟨z1, _, _, z4⟩
      rw [n1] at z1
      exact absurd (fB_t k z1).2.2.2.1 z4
  · intro t ht
    obtain ⟨e1, e2⟩ := fB_x t ht
    refine ⟨⟨0, by omega, e1⟩, fun _ => e1, fun _ => e2, fun p hp => ?_⟩
    rw [e2] at hp
    exact absurd hp (Nat.not_lt_zero p)
  · intro t ht p hp
    rw [(fB_x t ht).2] at hp
    exact absurd hp (Nat.not_lt_zero p)
  · intro d hd z
    obtain ⟨l, hl, e, _⟩ := hasA_iff.mp z
    rw [(fB_x (d * 3 + l) (by omega)).1] at e
    exact absurd e (by decide)
