/-! approve. -/
theorem ap_J {f : CS} {dy t : Nat} (hJ : J f dy) (ht : t < 6) (hL : 0 < nL f t) (hfb : fbI f t = -1) : J (apF f t) dy := by
  have hr : ∀ a, ¬ a = 12 → apF f t a = f a := fun a ha => by
    funext b
    exact gset_row0 ha
  have hR : agR f (apF f t) := fun a ha => hr a (by omega)
  have hT24 := hJ.1.1.1.2
  refine ⟨hR.J0 (fun k hk => ?_) hJ.1, agW.U (fun a ha => hr a (by omega)) (fun k hk => hr _ (by omega)) hJ.2.1, fun d hd z => ?_⟩
  · by_cases e : k = t
    · rw [e]
      exact ⟨⟨1, by omega, gset_eq _ _ _ _⟩, fun q => by omega⟩
    · have e1 : apF f t 12 k = f 12 k := gset_ne (by omega)
      rw [e1]
      exact ⟨(hJ.1.2.2.2.2.2.2 k hk).1, (hJ.1.2.2.2.2.2.2 k hk).2.1⟩
  · obtain ⟨l, hl, e1, e2⟩ := hasA_iff.mp z
    have ed : due (apF f t) (apF f t 0 3) = due f (f 0 3) := by
      unfold due nT
      rw [hr 0 (by omega), hr 5 (by omega), hr 8 (by omega), hr 9 (by omega)]
    have eu : ∀ x, uA (apF f t) (d * 3 + l) x = uA f (d * 3 + l) x := fun x => by
      unfold uA nL
      rw [hr 11 (by omega), hr (40 + (d * 3 + l)) (by omega)]
    rw [ed, eu] at e2
    by_cases e : d * 3 + l = t
    · have h0 : uI f t (nI 3) = 0 := by
        rcases Nat.eq_zero_or_pos (uI f t (nI 3)) with q | q
        · exact q
        · have := (fb_ge (f := f) (t := t) (hJ.1.1.2.2.2 t (by omega)).2).mpr (by omega)
          rw [hfb] at this
          exact absurd this (by decide)
      rw [e] at e2
      have : uA f t (due f (f 0 3)) ≤ uI f t (nI 3) := ct_mono (fun p hp q => by
        have q := of_decide_eq_true q
        rcases hJ.use t (by omega) p hp with z | ⟨u, hu, z, _, _⟩
        · exact absurd z q.1
        · have h5 := ((due_at hT24 hu).mp (by rw [← z]; exact q.2)).1
          refine decide_eq_true (show uS f t p (nI 3) from ?_)
          unfold uS isT
          rw [z, nI_clamp (by omega)]
          exact ⟨⟨nI_pos' (by omega), (g_lt (by omega) (by omega)).mpr hu⟩, h5⟩)
      omega
    · have e3 : apF f t 12 (d * 3 + l) = f 12 (d * 3 + l) := gset_ne (by omega)
      rw [e3] at e1
      exact hJ.2.2 d hd (hasA_iff.mpr ⟨l, hl, e1, e2⟩)
