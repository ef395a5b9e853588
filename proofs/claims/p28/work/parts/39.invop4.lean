/-! pass, split. -/
theorem pa1_0 {f : CS} {b : Nat} (h : ¬ b = 3) : pa1 f 0 b = f 0 b := gset_ne (by omega)
theorem pa1_row {f : CS} {a : Nat} (h : ¬ a = 0) : pa1 f a = f a := by
  funext b
  exact gset_row0 h
theorem pa1_T (f : CS) : nT (pa1 f) = nT f := by unfold nT; rw [pa1_0 (by omega)]
theorem pa1_C (f : CS) : nC (pa1 f) = nC f := by unfold nC; rw [pa1_0 (by omega)]
theorem pa1_D (f : CS) : nD (pa1 f) = nD f := by unfold nD; rw [pa1_0 (by omega)]
theorem pa1_L (f : CS) (t : Nat) : nL (pa1 f) t = nL f t := by unfold nL; rw [pa1_row (by omega)]
theorem pa1_J {f : CS} {dy : Nat} (h : J0 f dy) (hU : jU f) (hd : dy < 199) : J0 (pa1 f) (dy + 1) ∧ jU (pa1 f) ∧ pa1 f 0 3 = f 0 3 + nI 1 := by
  obtain ⟨hI, hN, hT, hDi, hP, hK, hX⟩ := h
  have e3 : pa1 f 0 3 = f 0 3 + nI 1 := gset_eq _ _ _ _
  refine ⟨⟨pa1_I hI, ?_, ⟨?_, ?_⟩, ?_, ?_, ?_, ?_⟩, ?_, e3⟩
  · unfold jN
    rw [pa1_T, pa1_C, pa1_D, e3, hN.2.2.2.1]
    exact ⟨hN.1, hN.2.1, hN.2.2.1, (Int32.ofNat_add _ _).symm, by omega⟩
  · intro t ht
    rw [pa1_T] at ht
    obtain ⟨c, g, x, s, h1, h2, h3, h4, h5, h6, h7, h8, h9, h10⟩ := hT.1 t ht
    rw [pa1_C]
    repeat rw [pa1_row (by omega)]
    exact ⟨c, g, x, s, h1, h2, h3, h4, h5, h6, h7, h8, fun q => by obtain ⟨b, k, a1, a2, a3, a4⟩ := h9 q; exact ⟨b, k, by omega, a2, a3, a4⟩, h10⟩
  · intro t
    rw [pa1_T]
    repeat rw [pa1_row (by omega)]
    exact hT.2 t
  · intro j k
    rw [pa1_T]
    repeat rw [pa1_row (by omega)]
    exact hDi j k
  · intro j k
    rw [pa1_T]
    repeat rw [pa1_row (by omega)]
    exact hP j k
  · intro i hi x hx k hk
    rw [pa1_T]
    repeat rw [pa1_row (by omega)]
    exact hK i hi x hx k hk
  · intro t ht
    rw [pa1_L]
    repeat rw [pa1_row (by omega)]
    exact hX t ht
  · intro t ht p hp
    rw [pa1_L] at hp
    have hag : agP f (pa1 f) t p (-1) (-1) := ⟨pa1_T f, cb_row (pa1_row (by omega)), fun k => dom_row (pa1_0 (by omega)) (pa1_row (by omega)) (pa1_row (by omega)) k _ _, fun o _ => ⟨by rw [pa1_L], fun _ => by unfold pl; rw [cb_row (pa1_row (show ¬ 60 + t % 3 = 0 by omega)), pa1_row (show ¬ 20 + t = 0 by omega)]⟩⟩
    rw [hag.use, pa1_row (show ¬ 40 + t = 0 by omega), pa1_row (show ¬ 20 + t = 0 by omega)]
    exact hU t ht p hp
theorem pa_J {f : CS} {dy : Nat} (hJ : J f dy) : ∀ n, dy + n ≤ 199 → J (paF f n) (dy + n)
  | 0, _ => hJ
  | n + 1, h => by
    have ih := pa_J hJ n (by omega)
    obtain ⟨h1, h2, h3⟩ := pa1_J ih.1 ih.2.1 (by omega)
    have := rp_J h1 h2
    rw [h3] at this
    show J (rpF (pa1 (paF f n)) (due (pa1 (paF f n)) (paF f n 0 3 + nI 1)) (nD (pa1 (paF f n)))) (dy + (n + 1))
    rw [pa1_D, ih.1.2.1.1]
    exact this
theorem hs_and {x y : Int32} {k : Nat} (hk : k < 32) : hs (x &&& y) (nI k) = true ↔ hs x (nI k) = true ∧ hs y (nI k) = true := by
  rw [hs_iff hk, hs_iff hk, hs_iff hk, Int32.toBitVec_and, BitVec.getLsbD_and, Bool.and_eq_true]
theorem hs_not {x : Int32} {k : Nat} (hk : k < 32) : hs (x ^^^ (-1)) (nI k) = true ↔ ¬ hs x (nI k) = true := by
  rw [hs_iff hk, hs_iff hk, Int32.toBitVec_xor, BitVec.getLsbD_xor]
  have : (-1 : Int32).toBitVec.getLsbD k = true := (hs_iff hk).mp (hs_all hk)
  rw [this]
  cases x.toBitVec.getLsbD k <;> simp
/-- a part of a set of terms -/
theorem part_of {f : CS} (hT : nT f ≤ 24) {s c : Int32} (h : s &&& (ofC f c ^^^ (-1)) = 0) {k : Nat} (hk : k < nT f) (hs1 : hs s (nI k) = true) : f 2 k = c := by
  have : ¬ hs (s &&& (ofC f c ^^^ (-1))) (nI k) = true := by rw [h]; exact hs_0 (by omega)
  rw [hs_and (by omega), hs_not (by omega)] at this
  rw [← ofC_at hT hk]
  cases q : hs (ofC f c) (nI k) with
  | true => rfl
  | false => exact absurd ⟨hs1, by rw [q]; decide⟩ this
theorem sp_J {f : CS} {dy c x : Nat} {s : Int32} (hJ : J f dy) (hC : nC f < 12) (hx : x < 4) (h : s &&& (ofC f (nI c) ^^^ (-1)) = 0) : J (spF f s x) dy := by
  obtain ⟨⟨hI, hN, hT, hDi, hP, hK, hX⟩, _⟩ := hJ
  have hT24 := hI.1.2
  have a0 : ∀ b, ¬ b = 0 → adC f (nI x) 0 b = f 0 b := fun b hb => by
    unfold adC
    rw [gset_ne (by omega), gset_row0 (by omega)]
  have ar : ∀ a, ¬ a = 0 → ¬ a = 1 → adC f (nI x) a = f a := fun a h1 h2 => by
    funext b
    unfold adC
    rw [gset_row0 h1, gset_row0 h2]
  have aT : nT (adC f (nI x)) = nT f := by unfold nT; rw [a0 1 (by omega)]
  have s0 : sp1 f s x 0 = adC f (nI x) 0 := mvF_row (by omega)
  have sr : ∀ a, ¬ a = 0 → ¬ a = 1 → ¬ a = 2 → sp1 f s x a = f a := fun a h0 h1 h2 => (mvF_row h2).trans (ar a h0 h1)
  have s2 : ∀ k, k < nT f → sp1 f s x 2 k = if hs s (nI k) = true then nI (nC f) else f 2 k := fun k hk => by
    unfold sp1 mvF
    rw [aT]
    by_cases q : hs s (nI k) = true
    · rw [if_pos ⟨rfl, hk, q⟩, if_pos q]
    · rw [if_neg (fun z => q z.2.2), if_neg q, ar 2 (by omega) (by omega)]
  have sT : nT (sp1 f s x) = nT f := by unfold nT; rw [s0, a0 1 (by omega)]
  have sD : nD (sp1 f s x) = nD f := by unfold nD; rw [s0, a0 2 (by omega)]
  have sC : nC (sp1 f s x) = nC f + 1 := by
    unfold nC
    rw [s0]
    show (adC f (nI x) 0 0).toNatClampNeg = _
    unfold adC
    rw [gset_eq, nI_clamp (by omega)]
    rfl
  have sL : ∀ t, nL (sp1 f s x) t = nL f t := fun t => by unfold nL; rw [sr 11 (by omega) (by omega) (by omega)]
  -- two terms of one concept now were of one before
  have same : ∀ j k, j < nT f → k < nT f → sp1 f s x 2 j = sp1 f s x 2 k → f 2 j = f 2 k := fun j k hj hk e => by
    rw [s2 j hj, s2 k hk] at e
    obtain ⟨cj, _, _, _, hcj, _, _, _, ej, _⟩ := hT.1 j hj
    obtain ⟨ck, _, _, _, hck, _, _, _, ek, _⟩ := hT.1 k hk
    by_cases qj : hs s (nI j) = true
    · by_cases qk : hs s (nI k) = true
      · exact (part_of hT24 h hj qj).trans (part_of hT24 h hk qk).symm
      · rw [if_pos qj, if_neg qk, ek] at e
        have := (g_eq (by omega) (by omega)).mp e
        omega
    · by_cases qk : hs s (nI k) = true
      · rw [if_neg qj, if_pos qk, ej] at e
        have := (g_eq (by omega) (by omega)).mp e
        omega
      · rw [if_neg qj, if_neg qk] at e
        exact e
  refine ra_J ⟨mvI (adC_I hI hC), ?_, ⟨?_, ?_⟩, ?_, ?_, ?_, ?_⟩
  · unfold jN
    rw [sT, sC, sD, s0, a0 3 (by omega)]
    exact ⟨hN.1, Nat.le_succ_of_le hN.2.1, hN.2.2⟩
  · intro t ht
    rw [sT] at ht
    obtain ⟨c', g, y, r, h1, h2, h3, h4, h5, h6, h7, h8, h9, h10⟩ := hT.1 t ht
    rw [sC, s2 t ht, sr 3 (by omega) (by omega) (by omega), sr 4 (by omega) (by omega) (by omega), sr 5 (by omega) (by omega) (by omega), sr 6 (by omega) (by omega) (by omega), sr 7 (by omega) (by omega) (by omega), sr 8 (by omega) (by omega) (by omega), sr 9 (by omega) (by omega) (by omega)]
    by_cases q : hs s (nI t) = true
    · exact ⟨nC f, g, y, r, by omega, h2, h3, h4, if_pos q, h6, h7, h8, h9, h10⟩
    · exact ⟨c', g, y, r, by omega, h2, h3, h4, (if_neg q).trans h5, h6, h7, h8, h9, h10⟩
  · rw [sT, sr 6 (by omega) (by omega) (by omega), sr 7 (by omega) (by omega) (by omega)]
    exact hT.2
  · intro j k hj hk h2 h3 h4
    rw [sT] at hj hk
    rw [sr 3 (by omega) (by omega) (by omega)] at h3
    rw [sr 4 (by omega) (by omega) (by omega)] at h4
    exact hDi j k hj hk (same j k hj hk h2) h3 h4
  · intro j k hj hk h2 h3 h4 h5
    rw [sT] at hj hk
    rw [sr 3 (by omega) (by omega) (by omega)] at h3
    rw [sr 5 (by omega) (by omega) (by omega)] at h4 h5
    exact hP j k hj hk (same j k hj hk h2) h3 h4 h5
  · intro i hi y hy k hk
    rw [sT, sr (60 + i) (by omega) (by omega) (by omega), sr 3 (by omega) (by omega) (by omega), sr 4 (by omega) (by omega) (by omega), sr 5 (by omega) (by omega) (by omega)]
    exact hK i hi y hy k hk
  · intro t ht
    rw [sL, sr (20 + t) (by omega) (by omega) (by omega), sr 12 (by omega) (by omega) (by omega)]
    exact hX t ht
