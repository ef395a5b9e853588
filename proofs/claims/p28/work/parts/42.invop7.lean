/-! term: one more, PROPOSED; it is no use of any form. -/
theorem ad_row {f : CS} {c g x : Int32} {a : Nat} (h : ¬ (a = 0 ∨ a = 2 ∨ a = 3 ∨ a = 4 ∨ a = 5)) : adT f c g x a = f a := by
  funext b
  unfold adT
  rw [gset_row0 (by omega), gset_row0 (by omega), gset_row0 (by omega), gset_row0 (by omega), gset_row0 (by omega)]
theorem ad_0 {f : CS} {c g x : Int32} {b : Nat} (h : ¬ b = 1) : adT f c g x 0 b = f 0 b := by
  unfold adT
  rw [gset_ne (by omega), gset_row0 (by omega), gset_row0 (by omega), gset_row0 (by omega), gset_row0 (by omega)]
theorem ad_old {f : CS} {c g x : Int32} {a k : Nat} (h : ¬ a = 0) (hk : ¬ k = nT f) : adT f c g x a k = f a k := by
  unfold adT
  rw [gset_row0 h, gset_ne (by omega), gset_ne (by omega), gset_ne (by omega), gset_ne (by omega)]
theorem ad_T {f : CS} {c g x : Int32} (h : nT f < 24) : nT (adT f c g x) = nT f + 1 := by
  show (gset _ 0 1 (nI (nT f + 1)) 0 1).toNatClampNeg = _
  rw [gset_eq]
  exact nI_clamp (by omega)
theorem ad_C (f : CS) (c g x : Int32) : nC (adT f c g x) = nC f := by unfold nC; rw [ad_0 (by omega)]
theorem ad_D (f : CS) (c g x : Int32) : nD (adT f c g x) = nD f := by unfold nD; rw [ad_0 (by omega)]
theorem ad_L (f : CS) (c g x : Int32) (t : Nat) : nL (adT f c g x) t = nL f t := by unfold nL; rw [ad_row (by omega)]
theorem ad_n2 (f : CS) (c g x : Int32) : adT f c g x 2 (nT f) = c := by
  unfold adT
  rw [gset_row0 (by omega), gset_row0 (by omega), gset_row0 (by omega), gset_row0 (by omega), gset_eq]
theorem ad_n3 (f : CS) (c g x : Int32) : adT f c g x 3 (nT f) = g := by
  unfold adT
  rw [gset_row0 (by omega), gset_row0 (by omega), gset_row0 (by omega), gset_eq]
theorem ad_n4 (f : CS) (c g x : Int32) : adT f c g x 4 (nT f) = x := by
  unfold adT
  rw [gset_row0 (by omega), gset_row0 (by omega), gset_eq]
theorem ad_n5 (f : CS) (c g x : Int32) : adT f c g x 5 (nT f) = nI 0 := by
  unfold adT
  rw [gset_row0 (by omega), gset_eq]
theorem ad_cb (f : CS) (c g x : Int32) (i : Nat) (y : Int32) : cb (adT f c g x) i y = cb f i y := cb_row (ad_row (by omega)) y
theorem ad_dom {f : CS} {c g x : Int32} {k : Nat} (hk : k < nT f) (a b : Int32) : domI (adT f c g x) k a b = domI f k a b := by
  unfold domI own
  rw [ad_old (by omega) (by omega), ad_row (show ¬ (1 = 0 ∨ 1 = 2 ∨ 1 = 3 ∨ 1 = 4 ∨ 1 = 5) by omega)]
  simp only [isC, ad_C]
theorem pl_cases {f : CS} {dy t o : Nat} (hJ : J0 f dy) (ht : t < 18) (ho : o < nL f t) : pl f t o = -1 ∨ ∃ u, u < nT f ∧ pl f t o = nI u := by
  obtain ⟨hI, hN, hT, hDi, hP, hK, hX⟩ := hJ
  obtain ⟨y, hy, ey⟩ := (hX t ht).2.2.2 o ho
  unfold pl
  rw [ey]
  rcases one_cases (cb f (t % 3) (nI y)) with q | ⟨u, hu, h1, h2⟩
  · exact Or.inl q
  · rw [cb_nat hy] at h1
    exact Or.inr ⟨u, ((hK (t % 3) (by omega) (y / 4) (by omega) u hu).mp h1).1, h2⟩
theorem ad_sup {f : CS} {dy t p k : Nat} {c g x : Int32} (hJ : J0 f dy) (h24 : nT f < 24) (ht : t < 18) (hk : k < nT f) (a b : Int32) : sup (adT f c g x) k t p a b = sup f k t p a b := by
  unfold sup
  rw [ad_L]
  refine ct_cong (fun o ho => decide_eq_decide.mpr ?_)
  have ho' : o < nL f t := by split at ho <;> omega
  have e : pl (adT f c g x) t o = pl f t o := by
    unfold pl
    rw [ad_cb, ad_row (show ¬ (20 + t = 0 ∨ 20 + t = 2 ∨ 20 + t = 3 ∨ 20 + t = 4 ∨ 20 + t = 5) by omega)]
  rw [e]
  rcases pl_cases hJ ht ho' with q | ⟨u, hu, q⟩
  · rw [q]
    unfold isT
    exact ⟨fun z => absurd z.2.2.1.1 (by decide), fun z => absurd z.2.2.1.1 (by decide)⟩
  · rw [q, nI_clamp (by omega), ad_dom hu, ad_dom hk]
    unfold isT
    rw [ad_T h24, g_lt (by omega) (by omega), g_lt (by omega) (by omega)]
    constructor
    · rintro ⟨h1, h2, ⟨h3, _⟩, h5⟩; exact ⟨h1, h2, ⟨h3, hu⟩, h5⟩
    · rintro ⟨h1, h2, ⟨h3, _⟩, h5⟩; exact ⟨h1, h2, ⟨h3, by omega⟩, h5⟩
theorem ad_bst {f : CS} {dy t p : Nat} {c g x : Int32} (hJ : J0 f dy) (h24 : nT f < 24) (ht : t < 18) (y a b : Int32) : ∀ n, n ≤ nT f → bst (adT f c g x) t p y a b n = bst f t p y a b n
  | 0, _ => rfl
  | n + 1, h => by
    show (if _ then _ else _) = (if _ then _ else _)
    rw [ad_bst hJ h24 ht y a b n (by omega), ad_sup hJ h24 ht (by omega)]
theorem ad_use {f : CS} {dy t p y : Nat} {c g x : Int32} (hJ : J0 f dy) (h24 : nT f < 24) (ht : t < 18) (hy : y < 80) (a b : Int32) : useF (adT f c g x) t p (nI y) a b = useF f t p (nI y) a b := by
  have hno : ¬ hs (cb f (t % 3) (nI y)) (nI (nT f)) = true := by
    rw [cb_nat hy, hJ.2.2.2.2.2.1 (t % 3) (by omega) (y / 4) (by omega) (nT f) (by omega)]
    exact fun z => Nat.lt_irrefl _ z.1
  unfold useF
  rw [ad_cb, ad_T h24]
  have e : bst (adT f c g x) t p (cb f (t % 3) (nI y)) a b (nT f + 1) = bst (adT f c g x) t p (cb f (t % 3) (nI y)) a b (nT f) := if_neg (fun z => hno z.1)
  rw [e, ad_bst hJ h24 ht _ a b _ (Nat.le_refl _)]
theorem has_iff {f : CS} {c g x : Int32} : hasT f c g x = true ↔ ∃ t, t < nT f ∧ f 2 t = c ∧ f 3 t = g ∧ f 4 t = x := by
  unfold hasT
  rw [aT_iff]
  exact ⟨fun ⟨t, h1, h2⟩ => ⟨t, h1, of_decide_eq_true h2⟩, fun ⟨t, h1, h2⟩ => ⟨t, h1, decide_eq_true h2⟩⟩
theorem ad_J {f : CS} {dy c g x : Nat} (hJ : J f dy) (hc : c < nC f) (hg : g < 3) (hx : x < 20) (h24 : nT f < 24) (hn : ¬ hasT f (nI c) (nI g) (nI x) = true) : J (adT f (nI c) (nI g) (nI x)) dy := by
  have hJ0 := hJ.1
  obtain ⟨⟨hI, hN, hT, hDi, hP, hK, hX⟩, hU, hD⟩ := hJ
  have nn : ∀ k, k < nT f → ¬ (f 2 k = nI c ∧ f 3 k = nI g ∧ f 4 k = nI x) := fun k hk z => hn (has_iff.mpr ⟨k, hk, z⟩)
  refine ⟨⟨⟨?_, ?_, ?_, ?_⟩, ?_, ⟨?_, ?_⟩, ?_, ?_, ?_, ?_⟩, ?_, ?_⟩
  · rw [ad_T h24]
    exact ⟨gset_eq _ _ _ _, by omega⟩
  · rw [ad_C, ad_0 (by omega)]; exact hI.2.1
  · rw [ad_D, ad_0 (by omega)]; exact hI.2.2.1
  · intro t ht
    rw [ad_L, ad_row (by omega)]; exact hI.2.2.2 t ht
  · unfold jN
    rw [ad_T h24, ad_C, ad_D, ad_0 (by omega)]
    exact ⟨hN.1, hN.2.1, Nat.le_succ_of_le hN.2.2.1, hN.2.2.2⟩
  · intro t ht
    rw [ad_T h24] at ht
    rw [ad_C]
    by_cases e : t = nT f
    · subst e
      rw [ad_n2, ad_n3, ad_n4, ad_n5, ad_row (show ¬ (6 = 0 ∨ 6 = 2 ∨ 6 = 3 ∨ 6 = 4 ∨ 6 = 5) by omega), ad_row (show ¬ (7 = 0 ∨ 7 = 2 ∨ 7 = 3 ∨ 7 = 4 ∨ 7 = 5) by omega)]
      refine ⟨c, g, x, 0, hc, hg, hx, by omega, rfl, rfl, rfl, rfl, fun q => by omega, fun _ => ?_⟩
      rw [(hT.2 _ (Nat.le_refl _) h24).1, (hT.2 _ (Nat.le_refl _) h24).2]
      decide
    · repeat rw [ad_old (by omega) e]
      exact hT.1 t (by omega)
  · intro t h1 h2
    rw [ad_T h24] at h1
    rw [ad_old (by omega) (by omega), ad_old (by omega) (by omega)]
    exact hT.2 t (by omega) h2
  · intro j k hj hk
    rw [ad_T h24] at hj hk
    by_cases ej : j = nT f
    · by_cases ek : k = nT f
      · intros; omega
      · subst ej
        rw [ad_n2, ad_n3, ad_n4]
        repeat rw [ad_old (by omega) ek]
        intro a b d
        exact absurd ⟨a.symm, b.symm, d.symm⟩ (nn k (by omega))
    · by_cases ek : k = nT f
      · subst ek
        rw [ad_n2, ad_n3, ad_n4]
        repeat rw [ad_old (by omega) ej]
        intro a b d
        exact absurd ⟨a, b, d⟩ (nn j (by omega))
      · repeat rw [ad_old (by omega) ej]
        repeat rw [ad_old (by omega) ek]
        exact hDi j k (by omega) (by omega)
  · intro j k hj hk h1 h2 h3 h4
    rw [ad_T h24] at hj hk
    by_cases ej : j = nT f
    · rw [ej, ad_n5] at h3
      exact absurd h3 (by decide)
    · by_cases ek : k = nT f
      · rw [ek, ad_n5] at h4
        exact absurd h4 (by decide)
      · rw [ad_old (by omega) ej, ad_old (by omega) ek] at h1 h2
        rw [ad_old (by omega) ej] at h3
        rw [ad_old (by omega) ek] at h4
        exact hP j k (by omega) (by omega) h1 h2 h3 h4
  · intro i hi y hy k hk
    rw [ad_row (by omega), hK i hi y hy k hk, ad_T h24]
    by_cases e : k = nT f
    · subst e
      rw [ad_n5]
      exact ⟨fun z => absurd z.1 (Nat.lt_irrefl _), fun z => absurd rfl z.2.2.2⟩
    · repeat rw [ad_old (by omega) e]
      exact ⟨fun z => ⟨by omega, z.2⟩, fun z => ⟨by omega, z.2⟩⟩
  · intro t ht
    rw [ad_L, ad_row (by omega), ad_row (by omega)]
    exact hX t ht
  · intro t ht p hp
    rw [ad_L] at hp
    rw [ad_row (show ¬ (40 + t = 0 ∨ 40 + t = 2 ∨ 40 + t = 3 ∨ 40 + t = 4 ∨ 40 + t = 5) by omega), ad_row (show ¬ (20 + t = 0 ∨ 20 + t = 2 ∨ 20 + t = 3 ∨ 20 + t = 4 ∨ 20 + t = 5) by omega)]
    obtain ⟨y, hy, ey⟩ := (hX t ht).2.2.2 p hp
    rw [hU t ht p hp, ey, ad_use hJ0 h24 ht hy]
  · intro d hd z
    refine hasA_mono (f := f) (ad_row (by omega)) (ad_row (by omega)) (by omega) (fun k hk => ad_row (by omega)) (J.use ⟨hJ0, hU, hD⟩) hI.1.2 (fun k hk q => ?_) (hD d hd) z
    rw [due_at (by rw [ad_T h24]; omega) (by rw [ad_T h24]; omega)] at q
    rw [due_at hI.1.2 hk]
    rw [ad_old (by omega) (by omega), ad_old (by omega) (by omega), ad_old (by omega) (by omega), ad_0 (by omega)] at q
    exact q
