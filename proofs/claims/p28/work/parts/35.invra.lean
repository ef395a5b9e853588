/-! Reading anew, and reopening what is due, leave the invariant. -/
/-- the rows that the clauses of terms and forms speak of -/
def agR (f g : CS) : Prop := ∀ a, a < 12 ∨ (20 ≤ a ∧ a < 38) ∨ 60 ≤ a → g a = f a
theorem agR.T {f g : CS} (h : agR f g) : nT g = nT f := by unfold nT; rw [h 0 (by omega)]
theorem agR.C {f g : CS} (h : agR f g) : nC g = nC f := by unfold nC; rw [h 0 (by omega)]
theorem agR.D {f g : CS} (h : agR f g) : nD g = nD f := by unfold nD; rw [h 0 (by omega)]
theorem agR.L {f g : CS} (h : agR f g) (t : Nat) : nL g t = nL f t := by unfold nL; rw [h 11 (by omega)]
theorem agR.use {f g : CS} (h : agR f g) {t : Nat} (ht : t < 18) (p : Nat) (x a b : Int32) : useF g t p x a b = useF f t p x a b := by
  refine agP.use ⟨h.T, cb_row (h _ (by omega)), dom_row (by rw [h 0 (by omega)]) (h 1 (by omega)) (h 2 (by omega)) |> fun q k => q k a b, fun o _ => ⟨by rw [h.L], fun _ => ?_⟩⟩ x
  unfold pl
  rw [cb_row (h (60 + t % 3) (by omega)), h (20 + t) (by omega)]
theorem agR.J0 {f g : CS} {dy : Nat} (h : agR f g) (h12 : ∀ t, t < 18 → (∃ x, x < 3 ∧ g 12 t = nI x) ∧ (nL f t = 0 → g 12 t = nI 0)) (hJ : J0 f dy) : J0 g dy := by
  obtain ⟨hI, hN, hT, hDi, hP, hK, hX⟩ := hJ
  have e0 := h 0 (by omega)
  have e2 := h 2 (by omega)
  have e3 := h 3 (by omega)
  have e4 := h 4 (by omega)
  have e5 := h 5 (by omega)
  have e6 := h 6 (by omega)
  have e7 := h 7 (by omega)
  have e8 := h 8 (by omega)
  have e9 := h 9 (by omega)
  refine ⟨gI_of (fun b _ => by rw [e0]) (h 11 (by omega)) hI, ?_, ?_, ?_, ?_, ?_, ?_⟩
  · unfold jN
    rw [h.T, h.C, h.D, e0]
    exact hN
  · unfold jT
    rw [h.T, h.C, e2, e3, e4, e5, e6, e7, e8, e9]
    exact hT
  · unfold hDis
    rw [h.T, e2, e3, e4]
    exact hDi
  · unfold hPr
    rw [h.T, e2, e3, e5]
    exact hP
  · intro i hi x hx k hk
    rw [h (60 + i) (by omega), h.T, e3, e4, e5]
    exact hK i hi x hx k hk
  · intro t ht
    rw [h.L, h (20 + t) (by omega)]
    exact ⟨(h12 t ht).1, (h12 t ht).2, (hX t ht).2.2⟩
theorem rl_R {f : CS} {n : Nat} (hn : n ≤ 18) : agR f (rlF f n) := fun a ha => rlF_ag hn a (by omega)
theorem rl_J {f : CS} {dy : Nat} (h : J0 f dy) : J0 (rlF f 18) dy ∧ jU (rlF f 18) := by
  have hR := rl_R (f := f) (n := 18) (Nat.le_refl _)
  refine ⟨hR.J0 (fun t ht => ?_) h, fun t ht p hp => ?_⟩
  · rw [rlF_ag (Nat.le_refl 18) 12 (by omega)]
    exact ⟨(h.2.2.2.2.2.2 t ht).1, (h.2.2.2.2.2.2 t ht).2.1⟩
  · rw [hR.L] at hp
    rw [hR.use ht, hR (20 + t) (by omega)]
    have e1 : 40 + t - 40 = t := by omega
    have e2 : 40 + t - 20 = 20 + t := by omega
    unfold rlF
    rw [e1, e2, if_pos ⟨by omega, by omega, hp⟩]
theorem rl_less {f : CS} {m n : Nat} (h : ∀ t, m ≤ t → t < n → nL f t = 0) (hmn : m ≤ n) : rlF f n = rlF f m := by
  funext a b
  unfold rlF
  by_cases q : 40 ≤ a ∧ a < 40 + m ∧ b < nL f (a - 40)
  · rw [if_pos q, if_pos ⟨q.1, by omega, q.2.2⟩]
  · rw [if_neg q]
    by_cases z : 40 ≤ a ∧ a < 40 + n ∧ b < nL f (a - 40)
    · exfalso
      have := h (a - 40) (by omega) (by omega)
      omega
    · rw [if_neg z]
theorem rp_R {f : CS} {x : Int32} {n : Nat} : agR f (rpF f x n) := fun a ha => rpF_row (by omega)
theorem rp_due {f : CS} {x : Int32} {n : Nat} (d : Int32) : due (rpF f x n) d = due f d := by
  unfold due nT
  rw [rpF_row (show 0 ≠ 12 by omega), rpF_row (show 5 ≠ 12 by omega), rpF_row (show 8 ≠ 12 by omega), rpF_row (show 9 ≠ 12 by omega)]
theorem rp_12 {f : CS} {x : Int32} {n t : Nat} : rpF f x n 12 t = f 12 t ∨ (rpF f x n 12 t = nI 2 ∧ f 12 t = nI 1) := by
  unfold rpF
  by_cases q : 12 = 12 ∧ t < n * 3 ∧ hasA f (t / 3) x = true ∧ f 12 t = nI 1
  · rw [if_pos q]; exact Or.inr ⟨rfl, q.2.2.2⟩
  · rw [if_neg q]; exact Or.inl rfl
theorem rp_J {f : CS} {dy : Nat} (h : J0 f dy) (hU : jU f) : J (rpF f (due f (f 0 3)) 2) dy := by
  refine ⟨rp_R.J0 (fun t ht => ?_) h, fun t ht p hp => ?_, fun d hd hh => ?_⟩
  · obtain ⟨⟨x, hx, ex⟩, h0, _⟩ := h.2.2.2.2.2.2 t ht
    rcases rp_12 (f := f) (x := due f (f 0 3)) (n := 2) (t := t) with q | ⟨q, q2⟩
    · rw [q]; exact ⟨⟨x, hx, ex⟩, h0⟩
    · rw [q]
      exact ⟨⟨2, by omega, rfl⟩, fun z => absurd ((h0 z).symm.trans q2) nI_01⟩
  · rw [rp_R.L] at hp
    rw [rp_R.use ht, rpF_row (show 40 + t ≠ 12 by omega), rpF_row (show 20 + t ≠ 12 by omega)]
    exact hU t ht p hp
  · rw [rpF_row (show 0 ≠ 12 by omega), rp_due] at hh
    obtain ⟨l, hl, e1, e2⟩ := hasA_iff.mp hh
    rw [rpF_uA] at e2
    rcases rp_12 (f := f) (x := due f (f 0 3)) (n := 2) (t := d * 3 + l) with q | ⟨q, q2⟩
    · have hA : hasA f d (due f (f 0 3)) = true := hasA_iff.mpr ⟨l, hl, q.symm.trans e1, e2⟩
      have e3 : rpF f (due f (f 0 3)) 2 12 (d * 3 + l) = nI 2 := if_pos ⟨rfl, by omega, by rw [show (d * 3 + l) / 3 = d by omega]; exact hA, q.symm.trans e1⟩
      rw [e3] at e1
      exact absurd e1 (by decide)
    · rw [q] at e1
      exact absurd e1 (by decide)
/-- after a change of the terms: all is read anew, and what is due is reopened -/
theorem ra_J {f : CS} {dy : Nat} (h : J0 f dy) : J (raA f) dy := by
  have hD2 := h.2.1.1
  have e : rlF f (nD f * 3) = rlF f 18 := by
    rw [hD2]
    exact (rl_less (fun t h1 h2 => (h.2.2.2.2.2.2 t h2).2.2.1 (by omega)) (by omega)).symm
  unfold raA
  rw [e, hD2]
  obtain ⟨h1, h2⟩ := rl_J h
  have e0 : f 0 3 = rlF f 18 0 3 := by rw [rlF_ag (Nat.le_refl 18) 0 (by omega)]
  rw [e0]
  exact rp_J h1 h2
