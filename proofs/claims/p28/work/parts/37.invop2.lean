/-! prefer, approve. -/
theorem pf_J {f : CS} {dy t : Nat} (hJ : J f dy) (ht : t < nT f) (e5 : f 5 t = nI 1) (hno : ∀ k, k < nT f → f 2 k = f 2 t → f 3 k = f 3 t → ¬ f 5 k = nI 2) : J (gset f 5 t (nI 2)) dy := by
  have hr : ∀ a, ¬ a = 5 → gset f 5 t (nI 2) a = f a := fun a ha => by
    funext b
    rw [gset_row0 ha]
  have hs0 : ¬ f 5 t = nI 0 := by rw [e5]; decide
  refine ⟨st_J0 (s' := 2) hJ.1 ht (fun a ha => hr a (by omega)) (fun a k e => gset_ne (by omega)) hs0 (gset_eq _ _ _ _) (by omega) (by omega) (fun z => by omega) (fun _ k hk h2 h3 h5 => absurd h5 (hno k hk h2 h3)), agW.U (fun a ha => hr a (by omega)) (fun k hk => hr _ (by omega)) hJ.2.1, fun d hd => ?_⟩
  have eT : nT (gset f 5 t (nI 2)) = nT f := by unfold nT; rw [hr 0 (by omega)]
  refine hasA_mono (hr 12 (by omega)) (hr 11 (by omega)) (by omega) (fun k hk => hr _ (by omega)) hJ.use hJ.1.1.1.2 (fun k hk1 z => ?_) (hJ.2.2 d hd)
  rw [due_at (by rw [eT]; exact hJ.1.1.1.2) (by rw [eT]; exact hk1)] at z
  rw [due_at hJ.1.1.1.2 hk1]
  rw [hr 8 (by omega), hr 9 (by omega), hr 0 (by omega)] at z
  by_cases e : k = t
  · rw [e, gset_eq] at z
    exact absurd z.1 (by decide)
  · rw [gset_ne (by omega)] at z
    exact z
theorem ra_cases {f : CS} {dy t : Nat} (hJ : J f dy) (ht : t < nT f) (e5 : f 5 t = nI 1) : (prI f (f 2 t) (f 3 t) = -1 ∧ raF f t = gset f 5 t (nI 2) ∧ ∀ k, k < nT f → f 2 k = f 2 t → f 3 k = f 3 t → ¬ f 5 k = nI 2) ∨ ∃ u, u < nT f ∧ ¬ u = t ∧ f 2 u = f 2 t ∧ f 3 u = f 3 t ∧ f 5 u = nI 2 ∧ prI f (f 2 t) (f 3 t) = nI u ∧ raF f t = gset (gset f 5 u (nI 1)) 5 t (nI 2) := by
  have hT24 := hJ.1.1.1.2
  have ep : prI f (f 2 t) (f 3 t) = if prT f (f 2 t) (f 3 t) < nT f then nI (prT f (f 2 t) (f 3 t)) else -1 := rfl
  rcases fst_cases (fun k => decide (f 2 k = f 2 t ∧ f 3 k = f 3 t ∧ f 5 k = nI 2)) (nT f) with ⟨a, b, _⟩ | ⟨a, b⟩
  · refine Or.inr ⟨_, a, ?_, (of_decide_eq_true b).1, (of_decide_eq_true b).2.1, (of_decide_eq_true b).2.2, ep.trans (if_pos a), ?_⟩
    · intro z
      have z2 := (of_decide_eq_true b).2.2
      rw [z, e5] at z2
      exact absurd z2 (by decide)
    · unfold raF
      rw [ep, if_pos (show prT f (f 2 t) (f 3 t) < nT f from a), if_pos ⟨nI_pos' (show prT f (f 2 t) (f 3 t) < 2 ^ 31 from by have : prT f (f 2 t) (f 3 t) < nT f := a; omega), (g_lt (by have : prT f (f 2 t) (f 3 t) < nT f := a; omega) (by omega)).mpr a⟩, nI_clamp (by have : prT f (f 2 t) (f 3 t) < nT f := a; omega)]
      rfl
  · have hn : prI f (f 2 t) (f 3 t) = -1 := ep.trans (if_neg (by
      have : prT f (f 2 t) (f 3 t) = nT f := a
      omega))
    refine Or.inl ⟨hn, ?_, fun k hk h2 h3 h5 => b k hk (decide_eq_true ⟨h2, h3, h5⟩)⟩
    unfold raF
    rw [hn, if_neg (fun z => absurd z.1 (by decide))]
theorem raF_J {f : CS} {dy t : Nat} (hJ : J f dy) (ht : t < nT f) (e5 : f 5 t = nI 1) : J (raF f t) dy := by
  rcases ra_cases hJ ht e5 with ⟨_, e, h⟩ | ⟨u, hu, hut, e2, e3, e5u, _, e⟩
  · rw [e]
    exact pf_J hJ ht e5 h
  · rw [e]
    have hJ1 := al_J hJ hu (by rw [e5u]; decide)
    refine pf_J hJ1 ht (by rw [gset_ne (by omega)]; exact e5) (fun k hk h2 h3 h5 => ?_)
    have hk1 : k < nT f := hk
    rw [gset_row0 (by omega), gset_row0 (by omega)] at h2 h3
    by_cases z : k = u
    · rw [z, gset_eq] at h5
      exact absurd h5 (by decide)
    · rw [gset_ne (by omega)] at h5
      exact z (hJ.1.2.2.2.2.1 k u hk1 hu (h2.trans e2.symm) (h3.trans e3.symm) h5 e5u)
