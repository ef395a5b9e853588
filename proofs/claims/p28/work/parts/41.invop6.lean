/-! write, cut. -/
theorem tx_J {f h : CS} {dy t : Nat} (hJ : J f dy) (ht : t < 6) (hI' : gI h) (hr : ∀ a, ¬ (a = 11 ∨ a = 12 ∨ a = 20 + t) → h a = f a) (h11 : ∀ k, ¬ k = t → h 11 k = f 11 k) (h12 : ∀ k, ¬ k = t → h 12 k = f 12 k) (e12 : h 12 t = nI 0) (hf : ∀ q, q < nL h t → ∃ y, y < 80 ∧ h (20 + t) q = nI y) : J (rdF h t (nL h t)) dy := by
  obtain ⟨⟨hI, hN, hT, hDi, hP, hK, hX⟩, hU, hD⟩ := hJ
  have hag := rdF_ag (f := h) (t := t) (n := nL h t) (by omega)
  have rr : ∀ a, ¬ (a = 11 ∨ a = 12 ∨ a = 20 + t ∨ a = 40 + t) → rdF h t (nL h t) a = f a := fun a ha => by
    funext b
    rw [rdF_row (by omega), hr a (by omega)]
  have e0 := rr 0 (by omega)
  have e2 := rr 2 (by omega)
  have e3 := rr 3 (by omega)
  have e4 := rr 4 (by omega)
  have e5 := rr 5 (by omega)
  have e6 := rr 6 (by omega)
  have e7 := rr 7 (by omega)
  have e8 := rr 8 (by omega)
  have e9 := rr 9 (by omega)
  have g12 : ∀ k, rdF h t (nL h t) 12 k = h 12 k := fun k => rdF_row (by omega)
  have g20 : ∀ k q, k < 18 → rdF h t (nL h t) (20 + k) q = h (20 + k) q := fun k q hk => rdF_row (by omega)
  have eT : nT (rdF h t (nL h t)) = nT f := by unfold nT; rw [e0]
  have eC : nC (rdF h t (nL h t)) = nC f := by unfold nC; rw [e0]
  have eD : nD (rdF h t (nL h t)) = nD f := by unfold nD; rw [e0]
  have eL : ∀ k, nL (rdF h t (nL h t)) k = nL h k := hag.L
  have eL2 : ∀ k, ¬ k = t → nL h k = nL f k := fun k hk => by unfold nL; rw [h11 k hk]
  refine ⟨⟨hag.I hI', ?_, ?_, ?_, ?_, ?_, ?_⟩, ?_, ?_⟩
  · unfold jN
    rw [eT, eC, eD, e0]
    exact hN
  · unfold jT
    rw [eT, eC, e2, e3, e4, e5, e6, e7, e8, e9]
    exact hT
  · unfold hDis
    rw [eT, e2, e3, e4]
    exact hDi
  · unfold hPr
    rw [eT, e2, e3, e5]
    exact hP
  · intro i hi x hx k hk
    rw [rr (60 + i) (by omega), eT, e3, e4, e5]
    exact hK i hi x hx k hk
  · intro k hk
    rw [eL, g12]
    by_cases e : k = t
    · subst e
      exact ⟨⟨0, by omega, e12⟩, fun _ => e12, fun q => by omega, fun q hq => by rw [g20 k q hk]; exact hf q hq⟩
    · rw [eL2 k e, h12 k e]
      obtain ⟨a, b, c, d⟩ := hX k hk
      refine ⟨a, b, c, fun q hq => ?_⟩
      rw [g20 k q hk, hr (20 + k) (by omega)]
      exact d q hq
  · intro k hk q hq
    rw [eL] at hq
    rw [g20 k q hk]
    by_cases e : k = t
    · subst e
      rw [hag.use hk]
      exact if_pos ⟨rfl, hq⟩
    · rw [eL2 k e] at hq
      have hp : agP f (rdF h t (nL h t)) k q (-1) (-1) := ⟨eT, cb_row (rr _ (by omega)), fun j => dom_row (by rw [e0]) (rr 1 (by omega)) (rr 2 (by omega)) j _ _, fun o _ => ⟨by rw [eL, eL2 k e], fun _ => by
        unfold pl
        rw [cb_row (rr (60 + k % 3) (by omega)), rr (20 + k) (by omega)]⟩⟩
      rw [hp.use, hr (20 + k) (by omega), rdF_row (show 40 + k ≠ 40 + t by omega), hr (40 + k) (by omega)]
      exact hU k hk q hq
  · intro d hd z
    have ed : due (rdF h t (nL h t)) (rdF h t (nL h t) 0 3) = due f (f 0 3) := by
      unfold due
      rw [eT, e0, e5, e8, e9]
    rw [ed] at z
    obtain ⟨l, hl, q1, q2⟩ := hasA_iff.mp z
    rw [g12] at q1
    by_cases e : d * 3 + l = t
    · rw [e, e12] at q1
      exact absurd q1 (by decide)
    · rw [h12 _ e] at q1
      refine hD d hd (hasA_iff.mpr ⟨l, hl, q1, ?_⟩)
      have eu : uA (rdF h t (nL h t)) (d * 3 + l) (due f (f 0 3)) = uA f (d * 3 + l) (due f (f 0 3)) := by
        unfold uA
        rw [eL, eL2 _ e, rr (40 + (d * 3 + l)) (by omega)]
      rw [eu] at q2
      exact q2
theorem pu_J {f : CS} {dy t p y : Nat} (hJ : J f dy) (ht : t < 6) (hp : p < 12) (hpl : p ≤ nL f t) (hy : y < 80) : J (puF f t p (nI y)) dy := by
  have hI := hJ.1.1
  have hL := hI.2.2.2 t (by omega)
  have hI' : gI (gset (pu1 f t p (nI y)) 12 t (nI 0)) := by
    unfold pu1
    by_cases e : p = nL f t
    · rw [if_pos e]; exact puI_y hI (by omega) (by omega) e
    · rw [if_neg e]; exact puI_n hI (by omega)
  have hLn : nL (gset (pu1 f t p (nI y)) 12 t (nI 0)) t = puN f t p := by
    unfold nL
    rw [gset_row0 (by omega)]
    unfold pu1 puN
    split
    · rw [gset_eq, nI_clamp (by omega)]
    · rw [gset_row0 (by omega)]
      rfl
  have := tx_J hJ ht hI' (fun a ha => by
    funext b
    rw [gset_row0 (by omega), pu1_at (by omega) (by omega)]) (fun k hk => by
    rw [gset_row0 (by omega)]
    unfold pu1
    split
    · rw [gset_ne (by omega), gset_row0 (by omega)]
    · rw [gset_row0 (by omega)]) (fun k hk => by
    rw [gset_ne (by omega), pu1_at (by omega) (by omega)]) (gset_eq _ _ _ _) (fun q hq => by
    rw [hLn] at hq
    rw [gset_row0 (by omega)]
    have e : pu1 f t p (nI y) (20 + t) q = gset f (20 + t) p (nI y) (20 + t) q := by
      unfold pu1
      split
      · rw [gset_row0 (by omega)]
      · rfl
    rw [e]
    by_cases z : q = p
    · rw [z, gset_eq]
      exact ⟨y, hy, rfl⟩
    · rw [gset_ne (by omega)]
      refine (hJ.1.2.2.2.2.2.2 t (by omega)).2.2.2 q ?_
      unfold puN at hq
      split at hq <;> omega)
  rw [hLn] at this
  exact this
theorem dl_J {f : CS} {dy t : Nat} (hJ : J f dy) (ht : t < 6) (h1 : 1 ≤ nL f t) : J (dlF f t) dy := by
  have hI := hJ.1.1
  have hL := hI.2.2.2 t (by omega)
  have hLn : nL (dl1 f t) t = nL f t - 1 := by
    show ((gset (gset f 11 t (nI (nL f t - 1))) 12 t (nI 0)) 11 t).toNatClampNeg = _
    rw [gset_row0 (by omega), gset_eq]
    exact nI_clamp (by omega)
  have := tx_J hJ ht (dlI hI (by omega)) (fun a ha => by
    funext b
    unfold dl1
    rw [gset_row0 (by omega), gset_row0 (by omega)]) (fun k hk => by
    unfold dl1
    rw [gset_row0 (by omega), gset_ne (by omega)]) (fun k hk => by
    unfold dl1
    rw [gset_ne (by omega), gset_row0 (by omega)]) (gset_eq _ _ _ _) (fun q hq => by
    rw [hLn] at hq
    unfold dl1
    rw [gset_row0 (by omega), gset_row0 (by omega)]
    exact (hJ.1.2.2.2.2.2.2 t (by omega)).2.2.2 q (by omega))
  rw [hLn] at this
  exact this
