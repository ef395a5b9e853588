/-! What holds between the turns. -/
theorem ct_one {p : Nat → Bool} : ∀ {n : Nat}, ct p n = 1 → ∃ u, u < n ∧ p u = true ∧ ∀ k, k < n → p k = true → k = u
  | 0, h => absurd h (by unfold ct; decide)
  | n + 1, h => by
    by_cases e : p n = true
    · rw [ct_y e] at h
      refine ⟨n, by omega, e, fun k hk q => ?_⟩
      by_cases z : k = n
      · exact z
      · have := ct_pos (n := n) (k := k) (by omega) q
        omega
    · rw [ct_n e] at h
      obtain ⟨u, h1, h2, h3⟩ := ct_one h
      refine ⟨u, by omega, h2, fun k hk q => ?_⟩
      by_cases z : k = n
      · exact absurd (z ▸ q) e
      · exact h3 k (by omega) q
theorem bit_low : ∀ u, u < 32 → pcn (bit u - nI 1) = u := by decide +kernel
theorem one_bit {x : Int32} (h : pcn x = 1) : ∃ u, u < 32 ∧ hs x (nI u) = true ∧ pcn (x - nI 1) = u := by
  obtain ⟨u, hu, h2, h3⟩ := ct_one h
  have e : x = bit u := by
    apply Int32.toBitVec_inj.mp
    apply BitVec.eq_of_getLsbD_eq
    intro i hi
    rw [bit_at u hu i hi]
    cases q : x.toBitVec.getLsbD i with
    | true => exact (decide_eq_true (h3 i hi q)).symm
    | false => exact (decide_eq_false (fun z => by subst z; rw [h2] at q; cases q)).symm
  refine ⟨u, hu, (hs_iff hu).mpr h2, ?_⟩
  rw [e, bit_low u hu]
theorem one_cases (x : Int32) : oneI x = -1 ∨ ∃ u, u < 32 ∧ hs x (nI u) = true ∧ oneI x = nI u := by
  unfold oneI
  by_cases h : pcn x = 1
  · rw [if_pos h]
    obtain ⟨u, hu, h2, h3⟩ := one_bit h
    exact Or.inr ⟨u, hu, h2, by rw [h3]⟩
  · rw [if_neg h]
    exact Or.inl rfl
theorem bst_cases (f : CS) (t p : Nat) (x a b : Int32) : ∀ n, (bst f t p x a b n).1 = -1 ∨ ∃ u, u < n ∧ hs x (nI u) = true ∧ (bst f t p x a b n).1 = nI u
  | 0 => Or.inl rfl
  | n + 1 => by
    by_cases h : hs x (nI n) = true ∧ (bst f t p x a b n).2 < nI (sup f n t p a b)
    · have e : bst f t p x a b (n + 1) = (nI n, nI (sup f n t p a b)) := if_pos h
      rw [e]
      exact Or.inr ⟨n, by omega, h.1, rfl⟩
    · have e : bst f t p x a b (n + 1) = bst f t p x a b n := if_neg h
      rw [e]
      rcases bst_cases f t p x a b n with q | ⟨u, hu, q⟩
      · exact Or.inl q
      · exact Or.inr ⟨u, by omega, q⟩
/-- the forms of a language and a stem can be the terms that are not PROPOSED -/
def hKn (f : CS) : Prop := ∀ g, g < 3 → ∀ x, x < 20 → ∀ k, k < 32 → (hs (f (60 + g) x) (nI k) = true ↔ k < nT f ∧ f 3 k = nI g ∧ f 4 k = nI x ∧ ¬ f 5 k = nI 0)
theorem cb_nat {f : CS} {g y : Nat} (hy : y < 80) : cb f g (nI y) = f (60 + g) (y / 4) := by
  unfold cb
  have e : nI y / nI 4 = nI (y / 4) := g_div (by omega) (by omega)
  rw [e, if_pos ⟨nI_pos' (by omega), (g_lt (by omega) (by omega)).mpr (by omega)⟩, nI_clamp (by omega)]
theorem use_cases {f : CS} (hT24 : nT f ≤ 24) (hK : hKn f) {t p y : Nat} (hy : y < 80) (a b : Int32) : useF f t p (nI y) a b = -1 ∨ ∃ u, u < nT f ∧ useF f t p (nI y) a b = nI u ∧ f 3 u = nI (t % 3) ∧ f 4 u = nI (y / 4) ∧ ¬ f 5 u = nI 0 := by
  have key : ∀ u, u < 32 → hs (cb f (t % 3) (nI y)) (nI u) = true → u < nT f ∧ f 3 u = nI (t % 3) ∧ f 4 u = nI (y / 4) ∧ ¬ f 5 u = nI 0 := fun u hu h => by
    rw [cb_nat hy] at h
    exact (hK (t % 3) (by omega) (y / 4) (by omega) u hu).mp h
  unfold useF
  by_cases h : pcn (cb f (t % 3) (nI y)) < 2
  · rw [if_pos h]
    rcases one_cases (cb f (t % 3) (nI y)) with q | ⟨u, hu, h1, h2⟩
    · exact Or.inl q
    · obtain ⟨k1, k2, k3, k4⟩ := key u hu h1
      exact Or.inr ⟨u, k1, h2, k2, k3, k4⟩
  · rw [if_neg h]
    rcases bst_cases f t p (cb f (t % 3) (nI y)) a b (nT f) with q | ⟨u, hu, h1, h2⟩
    · exact Or.inl q
    · obtain ⟨k1, k2, k3, k4⟩ := key u (by omega) h1
      exact Or.inr ⟨u, k1, h2, k2, k3, k4⟩
/-- the TERMS -/
def jT (f : CS) (dy : Nat) : Prop := (∀ t, t < nT f → ∃ c g x s, c < nC f ∧ g < 3 ∧ x < 20 ∧ s < 4 ∧ f 2 t = nI c ∧ f 3 t = nI g ∧ f 4 t = nI x ∧ f 5 t = nI s ∧ (s = 3 → ∃ b q, b ≤ dy ∧ q ≤ 4 ∧ f 8 t = nI b ∧ f 9 t = nI q) ∧ (s = 0 → pcn (f 6 t) ≤ 2 ∧ pcn (f 7 t) ≤ 2)) ∧ ∀ t, nT f ≤ t → t < 24 → f 6 t = nI 0 ∧ f 7 t = nI 0
/-- the TEXTS -/
def jX (f : CS) : Prop := ∀ t, t < 18 → (∃ x, x < 3 ∧ f 12 t = nI x) ∧ (nL f t = 0 → f 12 t = nI 0) ∧ (6 ≤ t → nL f t = 0) ∧ ∀ p, p < nL f t → ∃ y, y < 80 ∧ f (20 + t) p = nI y
/-- what the FORMS are is as it was last read -/
def jU (f : CS) : Prop := ∀ t, t < 18 → ∀ p, p < nL f t → f (40 + t) p = useF f t p (f (20 + t) p) (-1) (-1)
/-- nothing APPROVED uses what is overdue -/
def jD (f : CS) : Prop := ∀ d, d < 2 → ¬ hasA f d (due f (f 0 3)) = true
def jN (f : CS) (dy : Nat) : Prop := nD f = 2 ∧ 3 ≤ nC f ∧ 6 ≤ nT f ∧ f 0 3 = nI dy ∧ dy ≤ 199
def J0 (f : CS) (dy : Nat) : Prop := gI f ∧ jN f dy ∧ jT f dy ∧ hDis f ∧ hPr f ∧ hKn f ∧ jX f
def J (f : CS) (dy : Nat) : Prop := J0 f dy ∧ jU f ∧ jD f
theorem J.use {f : CS} {dy : Nat} (h : J f dy) : hUse f := fun t ht p hp => by
  obtain ⟨⟨hI, _, _, _, _, hK, hX⟩, hU, _⟩ := h
  obtain ⟨y, hy, ey⟩ := (hX t ht).2.2.2 p hp
  rw [hU t ht p hp, ey]
  rcases use_cases hI.1.2 hK (t := t) (p := p) hy (-1) (-1) with q | ⟨u, k1, k2, k3, _, k5⟩
  · exact Or.inl q
  · exact Or.inr ⟨u, k1, k2, k3, k5⟩
theorem J.tm {f : CS} {dy : Nat} (h : J f dy) : hTm f dy := fun t ht => by
  obtain ⟨⟨_, _, hT, _⟩, _⟩ := h
  obtain ⟨c, g, x, s, h1, h2, h3, h4, h5, h6, h7, h8, h9, h10⟩ := hT.1 t ht
  exact ⟨c, g, x, s, h1, h2, h3, h4, h5, h6, h7, h8, fun q => by obtain ⟨b, _, a1, _, a3, _⟩ := h9 q; exact ⟨b, a1, a3⟩, h10⟩
theorem J.co {f : CS} {dy : Nat} (h : J f dy) : ∀ k, k < nT f → ∃ c, c < nC f ∧ f 2 k = nI c := fun k hk => by
  obtain ⟨c, _, _, _, h1, _, _, _, h5, _⟩ := h.tm k hk
  exact ⟨c, h1, h5⟩
theorem nI_01 : ¬ nI 0 = nI 1 := by decide
theorem J.ap {f : CS} {dy : Nat} (h : J f dy) : ∀ t, t < 18 → f 12 t = nI 1 → 0 < nL f t := fun t ht e => by
  rcases Nat.eq_zero_or_pos (nL f t) with q | q
  · exact absurd ((h.1.2.2.2.2.2.2 t ht).2.1 q |>.symm.trans e) nI_01
  · exact q
theorem due_at {f : CS} (hT : nT f ≤ 24) {d : Int32} {k : Nat} (hk : k < nT f) : hs (due f d) (nI k) = true ↔ f 5 k = nI 3 ∧ f 8 k + f 9 k ≤ d := by
  unfold due
  rw [mk_at _ (by omega) (by omega)]
  exact ⟨fun h => of_decide_eq_true h.2, fun h => ⟨hk, decide_eq_true h⟩⟩
theorem hasA_iff {f : CS} {d : Nat} {x : Int32} : hasA f d x = true ↔ ∃ l, l < 3 ∧ f 12 (d * 3 + l) = nI 1 ∧ 0 < uA f (d * 3 + l) x := by
  unfold hasA
  rw [aT_iff]
  constructor
  · rintro ⟨l, h1, h2⟩
    have := of_decide_eq_true h2
    exact ⟨l, h1, this⟩
  · rintro ⟨l, h1, h2⟩
    exact ⟨l, h1, decide_eq_true h2⟩
theorem J.gr {f : CS} {dy : Nat} (h : J f dy) : ∀ t, t < 18 → f 12 t = nI 1 → ∀ p, p < nL f t → ∀ u, u < nT f → f (40 + t) p = nI u → f 5 u = nI 3 → ∀ b, f 8 u = nI b → b ≤ dy → dy ≤ b + 3 := fun t ht e p hp u hu eu e5 b eb hb => by
  have hT24 := h.1.1.1.2
  obtain ⟨hD2, _, _, hd, hd9⟩ := h.1.2.1
  have h6 : t < 6 := by
    rcases Nat.lt_or_ge t 6 with q | q
    · exact q
    · have := (h.1.2.2.2.2.2.2 t ht).2.2.1 q
      omega
  obtain ⟨c, g, x, s, _, _, _, hs4, _, _, _, e5', hb3, _⟩ := h.1.2.2.1.1 u hu
  have hs3 : s = 3 := (g_eq (by omega) (by omega)).mp (e5'.symm.trans e5)
  obtain ⟨b', q, hb', hq, eb', eq9⟩ := hb3 hs3
  have hbb : b' = b := (g_eq (by omega) (by omega)).mp (eb'.symm.trans eb)
  subst hbb
  rcases Nat.lt_or_ge (b' + 3) dy with z | z
  · exfalso
    have hdu : hs (due f (f 0 3)) (nI u) = true := (due_at hT24 hu).mpr ⟨e5, by
      rw [eb', eq9, hd, show nI b' + nI q = nI (b' + q) from (Int32.ofNat_add _ _).symm]
      exact (g_le (by omega) (by omega)).mpr (by omega)⟩
    refine h.2.2 (t / 3) (by omega) (hasA_iff.mpr ⟨t % 3, by omega, ?_⟩)
    rw [show t / 3 * 3 + t % 3 = t by omega]
    exact ⟨e, ct_pos hp (decide_eq_true ⟨by rw [eu]; exact nI_ne1 (by omega), by rw [eu]; exact hdu⟩)⟩
  · exact z
