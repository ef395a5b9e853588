/-! vote. -/
theorem vt_J {f g : CS} {dy t : Nat} (hJ : J f dy) (ht : t < nT f) (hr : ∀ a, ¬ (a = 6 ∨ a = 7) → g a = f a) (hk : ∀ a k, ¬ k = t → g a k = f a k) (h6 : pcn (g 6 t) ≤ 2) (h7 : pcn (g 7 t) ≤ 2) : J g dy := by
  obtain ⟨⟨hI, hN, hT, hDi, hP, hK, hX⟩, hU, hD⟩ := hJ
  have e0 := hr 0 (by omega)
  have e2 := hr 2 (by omega)
  have e3 := hr 3 (by omega)
  have e4 := hr 4 (by omega)
  have e5 := hr 5 (by omega)
  have e8 := hr 8 (by omega)
  have e9 := hr 9 (by omega)
  have eT : nT g = nT f := by unfold nT; rw [e0]
  have eC : nC g = nC f := by unfold nC; rw [e0]
  have eD : nD g = nD f := by unfold nD; rw [e0]
  have eL : ∀ t, nL g t = nL f t := fun t => by unfold nL; rw [hr 11 (by omega)]
  refine ⟨⟨gI_of (fun b _ => by rw [e0]) (hr 11 (by omega)) hI, ?_, ⟨?_, ?_⟩, ?_, ?_, ?_, ?_⟩, agW.U (fun a ha => hr a (by omega)) (fun k hk => hr _ (by omega)) hU, ?_⟩
  · unfold jN
    rw [eT, eC, eD, e0]
    exact hN
  · intro k hk1
    rw [eT] at hk1
    obtain ⟨c, i, x, s, h1, h2, h3, h4, h5, h6', h7', h8, h9, h10⟩ := hT.1 k hk1
    rw [eC, e2, e3, e4, e5, e8, e9]
    refine ⟨c, i, x, s, h1, h2, h3, h4, h5, h6', h7', h8, h9, fun q => ?_⟩
    by_cases e : k = t
    · rw [e]; exact ⟨h6, h7⟩
    · rw [hk 6 k e, hk 7 k e]; exact h10 q
  · intro k h1 h2
    rw [eT] at h1
    rw [hk 6 k (by omega), hk 7 k (by omega)]
    exact hT.2 k h1 h2
  · unfold hDis
    rw [eT, e2, e3, e4]
    exact hDi
  · unfold hPr
    rw [eT, e2, e3, e5]
    exact hP
  · intro i hi x hx k hk1
    rw [hr (60 + i) (by omega), eT, e3, e4, e5]
    exact hK i hi x hx k hk1
  · intro i hi
    rw [eL, hr (20 + i) (by omega), hr 12 (by omega)]
    exact hX i hi
  · intro d hd z
    have ed : due g (g 0 3) = due f (f 0 3) := by
      unfold due
      rw [eT, e0, e5, e8, e9]
    rw [ed] at z
    obtain ⟨l, hl, q1, q2⟩ := hasA_iff.mp z
    refine hD d hd (hasA_iff.mpr ⟨l, hl, by rw [hr 12 (by omega)] at q1; exact q1, ?_⟩)
    unfold uA nL at q2 ⊢
    rw [hr 11 (by omega), hr (40 + (d * 3 + l)) (by omega)] at q2
    exact q2
/-- a PROPOSED one is ADMITTED -/
theorem ad_J0 {f g : CS} {dy t i x : Nat} (hJ : J0 f dy) (ht : t < nT f) (hi : i < 3) (hx : x < 20) (e3 : f 3 t = nI i) (e4 : f 4 t = nI x) (hr : ∀ a, ¬ (a = 5 ∨ a = 6 ∨ a = 7 ∨ a = 60 + i) → g a = f a) (hk : ∀ a k, a < 20 → ¬ k = t → g a k = f a k) (h5 : g 5 t = nI 1) (hk6 : g (60 + i) x = f (60 + i) x ||| bit t) (hk7 : ∀ y, ¬ y = x → g (60 + i) y = f (60 + i) y) (h0 : f 5 t = nI 0) : J0 g dy := by
  obtain ⟨hI, hN, hT, hDi, hP, hK, hX⟩ := hJ
  have hT24 := hI.1.2
  have r0 := hr 0 (by omega)
  have r2 := hr 2 (by omega)
  have r3 := hr 3 (by omega)
  have r4 := hr 4 (by omega)
  have r8 := hr 8 (by omega)
  have r9 := hr 9 (by omega)
  have eT : nT g = nT f := by unfold nT; rw [r0]
  have eC : nC g = nC f := by unfold nC; rw [r0]
  have eD : nD g = nD f := by unfold nD; rw [r0]
  have eL : ∀ t, nL g t = nL f t := fun t => by unfold nL; rw [hr 11 (by omega)]
  have n01 : ¬ nI 1 = nI 0 := by decide
  have n12 : ¬ nI 1 = nI 2 := by decide
  refine ⟨gI_of (fun b _ => by rw [r0]) (hr 11 (by omega)) hI, ?_, ⟨?_, ?_⟩, ?_, ?_, ?_, ?_⟩
  · unfold jN
    rw [eT, eC, eD, r0]
    exact hN
  · intro k hk1
    rw [eT] at hk1
    obtain ⟨c, i', x', s, h1, h2, h3, h4, h5', h6', h7', h8, h9, h10⟩ := hT.1 k hk1
    rw [eC, r2, r3, r4, r8, r9]
    by_cases e : k = t
    · subst e
      exact ⟨c, i', x', 1, h1, h2, h3, by omega, h5', h6', h7', h5, fun q => by omega, fun q => by omega⟩
    · refine ⟨c, i', x', s, h1, h2, h3, h4, h5', h6', h7', by rw [hk 5 k (by omega) e]; exact h8, h9, ?_⟩
      rw [hk 6 k (by omega) e, hk 7 k (by omega) e]
      exact h10
  · intro k h1 h2
    rw [eT] at h1
    rw [hk 6 k (by omega) (by omega), hk 7 k (by omega) (by omega)]
    exact hT.2 k h1 h2
  · unfold hDis
    rw [eT, r2, r3, r4]
    exact hDi
  · intro j k hj hk1 h1 h2 h3 h4
    rw [eT] at hj hk1
    rw [r2] at h1
    rw [r3] at h2
    by_cases ej : j = t
    · rw [ej, h5] at h3
      exact absurd h3 n12
    · by_cases ek : k = t
      · rw [ek, h5] at h4
        exact absurd h4 n12
      · rw [hk 5 j (by omega) ej] at h3
        rw [hk 5 k (by omega) ek] at h4
        exact hP j k hj hk1 h1 h2 h3 h4
  · intro i' hi' y hy k hk1
    rw [eT, r3, r4]
    by_cases ei : i' = i
    · subst ei
      by_cases ey : y = x
      · subst ey
        rw [hk6, hs_or hk1, hK i' hi' y hy k hk1, hs_bit (by omega) hk1]
        by_cases ek : k = t
        · subst ek
          exact ⟨fun _ => ⟨ht, e3, e4, by rw [h5]; exact n01⟩, fun _ => Or.inr rfl⟩
        · rw [hk 5 k (by omega) ek]
          exact ⟨fun q => q.resolve_right ek, fun q => Or.inl q⟩
      · rw [hk7 y ey, hK i' hi' y hy k hk1]
        by_cases ek : k = t
        · subst ek
          rw [h5]
          exact ⟨fun q => absurd h0 q.2.2.2, fun q => absurd ((g_eq (by omega) (by omega)).mp (e4.symm.trans q.2.2.1)).symm ey⟩
        · rw [hk 5 k (by omega) ek]
    · rw [hr (60 + i') (by omega), hK i' hi' y hy k hk1]
      by_cases ek : k = t
      · subst ek
        rw [h5]
        exact ⟨fun q => absurd h0 q.2.2.2, fun q => absurd ((g_eq (by omega) (by omega)).mp (e3.symm.trans q.2.1)).symm ei⟩
      · rw [hk 5 k (by omega) ek]
  · intro q hq
    rw [eL, hr (20 + q) (by omega), hr 12 (by omega)]
    exact hX q hq
