/-! How many texts are in a state, before and after. -/
theorem rp_ts1 {f : CS} {x : Int32} (hD : nD f = 2) (hA : ∀ t, t < 18 → f 12 t = nI 1 → 0 < nL f t) : tsN (rpF f x 2) (nI 1) + roN f x = tsN f (nI 1) := by
  have hR := rp_R (f := f) (x := x) (n := 2)
  unfold tsN roN
  rw [hR.D, ct_three, ct_three, ← sm_add]
  refine sm_cong (fun d hd => ?_)
  rw [hD] at hd
  by_cases q : hasA f d x = true
  · rw [if_pos q]
    have e1 : ct (fun l => decide (0 < nL (rpF f x 2) (d * 3 + l) ∧ rpF f x 2 12 (d * 3 + l) = nI 1)) 3 = 0 := ct_0 (fun l hl z => by
      have z := (of_decide_eq_true z).2
      rcases rp_12 (f := f) (x := x) (n := 2) (t := d * 3 + l) with y | ⟨y, _⟩
      · have e3 : rpF f x 2 12 (d * 3 + l) = nI 2 := if_pos ⟨rfl, by omega, by rw [show (d * 3 + l) / 3 = d by omega]; exact q, y.symm.trans z⟩
        rw [e3] at z
        exact absurd z (by decide)
      · rw [y] at z
        exact absurd z (by decide))
    rw [e1, Nat.zero_add]
    exact ct_cong (fun l hl => decide_eq_decide.mpr ⟨fun z => ⟨hA _ (by omega) z, z⟩, fun z => z.2⟩)
  · rw [if_neg q, Nat.add_zero]
    refine ct_cong (fun l hl => decide_eq_decide.mpr ?_)
    have e3 : rpF f x 2 12 (d * 3 + l) = f 12 (d * 3 + l) := if_neg (fun z => q (by have := z.2.2.1; rwa [show (d * 3 + l) / 3 = d by omega] at this))
    rw [e3, hR.L]
theorem rp_ts2 {f : CS} {x : Int32} : tsN f (nI 2) ≤ tsN (rpF f x 2) (nI 2) := by
  have hR := rp_R (f := f) (x := x) (n := 2)
  unfold tsN
  rw [hR.D]
  refine ct_mono (fun t ht z => decide_eq_true ?_)
  have z := of_decide_eq_true z
  rw [hR.L]
  refine ⟨z.1, ?_⟩
  rcases rp_12 (f := f) (x := x) (n := 2) (t := t) with y | ⟨y, y2⟩
  · rw [y]; exact z.2
  · exact y
theorem ts_row {f g : CS} (h12 : g 12 = f 12) (h11 : g 11 = f 11) (hD : nD g = nD f) (x : Int32) : tsN g x = tsN f x := by
  unfold tsN nL
  rw [h12, h11, hD]
theorem ra_ts2 {f : CS} {dy : Nat} (h : J0 f dy) : tsN f (nI 2) ≤ tsN (raA f) (nI 2) := by
  have hD2 := h.2.1.1
  unfold raA
  have hag := rlF_ag (f := f) (n := nD f * 3) (by omega)
  rw [hD2] at hag ⊢
  refine Nat.le_trans (Nat.le_of_eq ?_) rp_ts2
  exact (ts_row (hag 12 (by omega)) (hag 11 (by omega)) hag.D _).symm
/-- what is due one day is due every later one: the days together reopen what the last would reopen alone -/
theorem rp_rp {f : CS} {x y : Int32} (hu : hUse f) (hT : nT f ≤ 24) (h : ∀ k, k < nT f → hs x (nI k) = true → hs y (nI k) = true) : rpF (rpF f x 2) y 2 12 = rpF f y 2 12 := by
  funext t
  have hm : ∀ d, d < 2 → hasA f d x = true → hasA f d y = true := fun d hd q => by
    cases z : hasA f d y with
    | true => rfl
    | false => exact absurd q (hasA_mono (f := f) (g := f) rfl rfl (by omega) (fun _ _ => rfl) hu hT h (by rw [z]; decide))
  by_cases ht : t < 2 * 3
  · by_cases q1 : hasA f (t / 3) x = true
    · have q2 := hm (t / 3) (by omega) q1
      by_cases e : f 12 t = nI 1
      · have a1 : rpF f x 2 12 t = nI 2 := if_pos ⟨rfl, ht, q1, e⟩
        have a2 : rpF f y 2 12 t = nI 2 := if_pos ⟨rfl, ht, q2, e⟩
        rw [a2]
        rcases rp_12 (f := rpF f x 2) (x := y) (n := 2) (t := t) with z | ⟨z, _⟩
        · rw [z, a1]
        · exact z
      · have a1 : rpF f x 2 12 t = f 12 t := if_neg (fun z => e z.2.2.2)
        have a2 : rpF f y 2 12 t = f 12 t := if_neg (fun z => e z.2.2.2)
        rw [a2]
        rcases rp_12 (f := rpF f x 2) (x := y) (n := 2) (t := t) with z | ⟨_, z⟩
        · rw [z, a1]
        · rw [a1] at z; exact absurd z e
    · have a1 : ∀ l, l < 3 → rpF f x 2 12 (t / 3 * 3 + l) = f 12 (t / 3 * 3 + l) := fun l hl => if_neg (fun z => q1 (by have := z.2.2.1; rwa [show (t / 3 * 3 + l) / 3 = t / 3 by omega] at this))
      have e0 : rpF f x 2 12 t = f 12 t := if_neg (fun z => q1 z.2.2.1)
      have eh : hasA (rpF f x 2) (t / 3) y = true ↔ hasA f (t / 3) y = true := by
        rw [hasA_iff, hasA_iff]
        constructor
        · rintro ⟨l, hl, z1, z2⟩
          rw [a1 l hl] at z1
          rw [rpF_uA] at z2
          exact ⟨l, hl, z1, z2⟩
        · rintro ⟨l, hl, z1, z2⟩
          exact ⟨l, hl, by rw [a1 l hl]; exact z1, by rw [rpF_uA]; exact z2⟩
      by_cases z : hasA f (t / 3) y = true ∧ f 12 t = nI 1
      · have b1 : rpF f y 2 12 t = nI 2 := if_pos ⟨rfl, ht, z.1, z.2⟩
        have b2 : rpF (rpF f x 2) y 2 12 t = nI 2 := if_pos ⟨rfl, ht, eh.mpr z.1, by rw [e0]; exact z.2⟩
        rw [b1, b2]
      · have b1 : rpF f y 2 12 t = f 12 t := if_neg (fun w => z ⟨w.2.2.1, w.2.2.2⟩)
        have b2 : rpF (rpF f x 2) y 2 12 t = rpF f x 2 12 t := if_neg (fun w => z ⟨eh.mp w.2.2.1, by have := w.2.2.2; rwa [e0] at this⟩)
        rw [b1, b2, e0]
  · have b1 : rpF f y 2 12 t = f 12 t := if_neg (fun w => ht w.2.1)
    have b2 : rpF (rpF f x 2) y 2 12 t = rpF f x 2 12 t := if_neg (fun w => ht w.2.1)
    have b3 : rpF f x 2 12 t = f 12 t := if_neg (fun w => ht w.2.1)
    rw [b1, b2, b3]
