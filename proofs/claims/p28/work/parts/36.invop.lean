/-! Each call leaves the invariant: a term's state. -/
/-- the rows that a use depends on -/
def agW (f g : CS) : Prop := ∀ a, a < 3 ∨ a = 11 ∨ (20 ≤ a ∧ a < 38) ∨ 60 ≤ a → g a = f a
theorem agW.use {f g : CS} (h : agW f g) {t : Nat} (ht : t < 18) (p : Nat) (x a b : Int32) : useF g t p x a b = useF f t p x a b := by
  have e0 := h 0 (by omega)
  refine agP.use ⟨by unfold nT; rw [e0], cb_row (h _ (by omega)), fun k => dom_row (by rw [e0]) (h 1 (by omega)) (h 2 (by omega)) k a b, fun o _ => ⟨by unfold nL; rw [h 11 (by omega)], fun _ => ?_⟩⟩ x
  unfold pl
  rw [cb_row (h (60 + t % 3) (by omega)), h (20 + t) (by omega)]
theorem agW.U {f g : CS} (h : agW f g) (h40 : ∀ t, t < 18 → g (40 + t) = f (40 + t)) (hU : jU f) : jU g := fun t ht p hp => by
  have eL : nL g t = nL f t := by unfold nL; rw [h 11 (by omega)]
  rw [eL] at hp
  rw [h.use ht, h40 t ht, h (20 + t) (by omega)]
  exact hU t ht p hp
/-- one term that is not PROPOSED has another state, not that one either -/
theorem st_J0 {f g : CS} {dy t s' : Nat} (hJ : J0 f dy) (ht : t < nT f) (hr : ∀ a, ¬ (a = 5 ∨ a = 8 ∨ a = 9) → g a = f a) (hk : ∀ a k, ¬ k = t → g a k = f a k) (hs0 : ¬ f 5 t = nI 0) (hs : g 5 t = nI s') (hs1 : 0 < s') (hs4 : s' < 4)
    (hb : s' = 3 → ∃ b q, b ≤ dy ∧ q ≤ 4 ∧ g 8 t = nI b ∧ g 9 t = nI q) (hp : s' = 2 → ∀ k, k < nT f → f 2 k = f 2 t → f 3 k = f 3 t → f 5 k = nI 2 → k = t) : J0 g dy := by
  obtain ⟨hI, hN, hT, hDi, hP, hK, hX⟩ := hJ
  have e0 := hr 0 (by omega)
  have e2 := hr 2 (by omega)
  have e3 := hr 3 (by omega)
  have e4 := hr 4 (by omega)
  have e6 := hr 6 (by omega)
  have e7 := hr 7 (by omega)
  have eT : nT g = nT f := by unfold nT; rw [e0]
  have eC : nC g = nC f := by unfold nC; rw [e0]
  have eD : nD g = nD f := by unfold nD; rw [e0]
  have eL : ∀ t, nL g t = nL f t := fun t => by unfold nL; rw [hr 11 (by omega)]
  refine ⟨gI_of (fun b _ => by rw [e0]) (hr 11 (by omega)) hI, ?_, ⟨?_, ?_⟩, ?_, ?_, ?_, ?_⟩
  · unfold jN
    rw [eT, eC, eD, e0]
    exact hN
  · intro k hk1
    rw [eT] at hk1
    obtain ⟨c, i, x, s, h1, h2, h3, h4, h5, h6, h7, h8, h9, h10⟩ := hT.1 k hk1
    rw [eC, e2, e3, e4, e6, e7]
    by_cases e : k = t
    · subst e
      exact ⟨c, i, x, s', h1, h2, h3, hs4, h5, h6, h7, hs, hb, fun q => by omega⟩
    · refine ⟨c, i, x, s, h1, h2, h3, h4, h5, h6, h7, by rw [hk 5 k e]; exact h8, fun q => ?_, h10⟩
      rw [hk 8 k e, hk 9 k e]
      exact h9 q
  · rw [eT, e6, e7]
    exact hT.2
  · unfold hDis
    rw [eT, e2, e3, e4]
    exact hDi
  · intro j k hj hk1 h1 h2 h3 h4
    rw [eT] at hj hk1
    rw [e2] at h1
    rw [e3] at h2
    by_cases ej : j = t
    · by_cases ek : k = t
      · omega
      · rw [hk 5 k ek] at h4
        rw [ej] at h1 h2 h3
        have : s' = 2 := (g_eq (by omega) (by omega)).mp (hs.symm.trans h3)
        have := hp this k hk1 h1.symm h2.symm h4
        omega
    · rw [hk 5 j ej] at h3
      by_cases ek : k = t
      · rw [ek] at h1 h2 h4
        have : s' = 2 := (g_eq (by omega) (by omega)).mp (hs.symm.trans h4)
        have := hp this j hj h1 h2 h3
        omega
      · rw [hk 5 k ek] at h4
        exact hP j k hj hk1 h1 h2 h3 h4
  · intro i hi x hx k hk1
    rw [hr (60 + i) (by omega), eT, e3, e4, hK i hi x hx k hk1]
    by_cases e : k = t
    · subst e
      rw [hs]
      constructor
      · rintro ⟨a, b, c, _⟩
        exact ⟨a, b, c, fun q => by have := (g_eq (by omega) (by omega)).mp q; omega⟩
      · rintro ⟨a, b, c, _⟩
        exact ⟨a, b, c, hs0⟩
    · rw [hk 5 k e]
  · intro i hi
    rw [eL, hr (20 + i) (by omega), hr 12 (by omega)]
    exact hX i hi
/-- ban -/
theorem bn_J {f : CS} {dy t q : Nat} (hJ : J f dy) (ht : t < nT f) (hs0 : ¬ f 5 t = nI 0) (hq : q ≤ 4) : J (rpF (foF f t (f 0 3) (nI q)) (due (foF f t (f 0 3) (nI q)) (f 0 3)) 2) dy := by
  have hd := hJ.1.2.1.2.2.2.1
  have hr : ∀ a, ¬ (a = 5 ∨ a = 8 ∨ a = 9) → foF f t (f 0 3) (nI q) a = f a := fun a ha => by
    funext b
    unfold foF
    rw [gset_row0 (by omega), gset_row0 (by omega), gset_row0 (by omega)]
  have h0 : J0 (foF f t (f 0 3) (nI q)) dy := by
    refine st_J0 (s' := 3) hJ.1 ht hr (fun a k e => ?_) hs0 ?_ (by omega) (by omega) (fun _ => ⟨dy, q, Nat.le_refl _, hq, ?_, ?_⟩) (fun z => by omega)
    · unfold foF
      rw [gset_ne (by omega), gset_ne (by omega), gset_ne (by omega)]
    · unfold foF
      rw [gset_row0 (by omega), gset_row0 (by omega), gset_eq]
    · unfold foF
      rw [gset_row0 (by omega), gset_eq]
      exact hd
    · unfold foF
      rw [gset_eq]
  have h1 : jU (foF f t (f 0 3) (nI q)) := agW.U (fun a ha => hr a (by omega)) (fun k hk => hr _ (by omega)) hJ.2.1
  have := rp_J h0 h1
  rwa [hr 0 (by omega)] at this
/-- a smaller set of what is due: nothing more is reopened -/
theorem hasA_mono {f g : CS} {x y : Int32} {d : Nat} (h12 : g 12 = f 12) (h11 : g 11 = f 11) (hd : d < 6) (h40 : ∀ t, t < 18 → g (40 + t) = f (40 + t)) (hu : hUse f) (hT : nT f ≤ 24) (hxy : ∀ k, k < nT f → hs y (nI k) = true → hs x (nI k) = true) (h : ¬ hasA f d x = true) : ¬ hasA g d y = true := fun z => by
  obtain ⟨l, hl, e1, e2⟩ := hasA_iff.mp z
  refine h (hasA_iff.mpr ⟨l, hl, by rw [h12] at e1; exact e1, Nat.lt_of_lt_of_le e2 ?_⟩)
  unfold uA nL
  rw [h11, h40 _ (by omega)]
  refine ct_mono (fun p hp q => ?_)
  have q := of_decide_eq_true q
  rcases hu (d * 3 + l) (by omega) p hp with e | ⟨u, hu1, e, _, _⟩
  · exact absurd e q.1
  · rw [e] at q ⊢
    exact decide_eq_true ⟨q.1, hxy u hu1 q.2⟩
/-- allow -/
theorem al_J {f : CS} {dy t : Nat} (hJ : J f dy) (ht : t < nT f) (hs0 : ¬ f 5 t = nI 0) : J (gset f 5 t (nI 1)) dy := by
  have hr : ∀ a, ¬ a = 5 → gset f 5 t (nI 1) a = f a := fun a ha => by
    funext b
    rw [gset_row0 ha]
  refine ⟨st_J0 (s' := 1) hJ.1 ht (fun a ha => hr a (by omega)) (fun a k e => gset_ne (by omega)) hs0 (gset_eq _ _ _ _) (by omega) (by omega) (fun z => by omega) (fun z => by omega), agW.U (fun a ha => hr a (by omega)) (fun k hk => hr _ (by omega)) hJ.2.1, fun d hd => ?_⟩
  have eT : nT (gset f 5 t (nI 1)) = nT f := by unfold nT; rw [hr 0 (by omega)]
  refine hasA_mono (hr 12 (by omega)) (hr 11 (by omega)) (by omega) (fun k hk => hr _ (by omega)) hJ.use hJ.1.1.1.2 (fun k hk1 z => ?_) (hJ.2.2 d hd)
  rw [due_at (by rw [eT]; exact hJ.1.1.1.2) (by rw [eT]; exact hk1)] at z
  rw [due_at hJ.1.1.1.2 hk1]
  rw [hr 8 (by omega), hr 9 (by omega), hr 0 (by omega)] at z
  by_cases e : k = t
  · rw [e, gset_eq] at z
    exact absurd z.1 (by decide)
  · rw [gset_ne (by omega)] at z
    exact z
