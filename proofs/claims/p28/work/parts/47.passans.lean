/-! pass answers what reopenedIn foretold. -/
/-- two worlds that are the same in texts, uses and documents -/
def agX (f g : CS) : Prop := g 12 = f 12 ∧ g 11 = f 11 ∧ (∀ t, t < 18 → g (40 + t) = f (40 + t)) ∧ nD g = nD f ∧ nD f ≤ 6
theorem agX.has {f g : CS} (h : agX f g) {d : Nat} (hd : d < 6) (x : Int32) : hasA g d x = true ↔ hasA f d x = true := by
  rw [hasA_iff, hasA_iff]
  have e : ∀ l, l < 3 → uA g (d * 3 + l) x = uA f (d * 3 + l) x := fun l hl => by
    unfold uA nL
    rw [h.2.1, h.2.2.1 _ (by omega)]
  constructor
  · rintro ⟨l, hl, z1, z2⟩
    exact ⟨l, hl, by rw [← h.1]; exact z1, by rw [← e l hl]; exact z2⟩
  · rintro ⟨l, hl, z1, z2⟩
    exact ⟨l, hl, by rw [h.1]; exact z1, by rw [e l hl]; exact z2⟩
theorem agX.ro {f g : CS} (h : agX f g) (x : Int32) : roN g x = roN f x := by
  unfold roN
  rw [h.2.2.2.1]
  refine sm_cong (fun d hd => ?_)
  have ha : apN g d = apN f d := by unfold apN; rw [h.1]
  have hd6 := h.2.2.2.2
  rw [ha]
  by_cases z : hasA f d x = true
  · rw [if_pos z, if_pos ((h.has (by omega) x).mpr z)]
  · rw [if_neg z, if_neg (fun y => z ((h.has (by omega) x).mp y))]
theorem agX.rp {f g : CS} (h : agX f g) (x : Int32) : rpF g x 2 12 = rpF f x 2 12 := by
  funext t
  unfold rpF
  rw [h.1]
  by_cases z : 12 = 12 ∧ t < 2 * 3 ∧ hasA f (t / 3) x = true ∧ f 12 t = nI 1
  · rw [if_pos z, if_pos ⟨z.1, z.2.1, (h.has (by omega) x).mpr z.2.2.1, z.2.2.2⟩]
  · rw [if_neg z, if_neg (fun y => z ⟨y.1, y.2.1, (h.has (by omega) x).mp y.2.2.1, y.2.2.2⟩)]
theorem ro_none {f : CS} {dy : Nat} (hJ : J f dy) : roN f (due f (f 0 3)) = 0 ∧ rpF f (due f (f 0 3)) 2 12 = f 12 := by
  refine ⟨sm_zero (fun d hd => if_neg (hJ.2.2 d (by have := hJ.1.2.1.1; omega))), ?_⟩
  funext t
  exact if_neg (fun z => hJ.2.2 (t / 3) (by omega) z.2.2.1)
theorem due_le {f : CS} (hT : nT f ≤ 24) {d e : Int32} (h : d ≤ e) : ∀ k, k < nT f → hs (due f d) (nI k) = true → hs (due f e) (nI k) = true := fun k hk z => by
  rw [due_at hT hk] at z ⊢
  exact ⟨z.1, Int32.le_trans z.2 h⟩
theorem pa_ans {f : CS} {dy : Nat} (hJ : J f dy) : ∀ n, dy + n ≤ 199 → (∀ a, ¬ (a = 0 ∨ a = 12) → paF f n a = f a) ∧ (∀ b, ¬ b = 3 → paF f n 0 b = f 0 b) ∧ paF f n 0 3 = nI (dy + n) ∧ paF f n 12 = rpF f (due f (nI (dy + n))) 2 12 ∧ paN f n = roN f (due f (nI (dy + n)))
  | 0, _ => by
    have hd := hJ.1.2.1.2.2.2.1
    obtain ⟨h1, h2⟩ := ro_none hJ
    rw [hd] at h1 h2
    exact ⟨fun _ _ => rfl, fun _ _ => rfl, hd, h2.symm, h1.symm⟩
  | n + 1, hn => by
    obtain ⟨hD2, _, _, hdy, hd9⟩ := hJ.1.2.1
    have hT24 := hJ.1.1.1.2
    obtain ⟨i1, i2, i3, i4, i5⟩ := pa_ans hJ n (by omega)
    have e3 : paF f n 0 3 + nI 1 = nI (dy + (n + 1)) := by rw [i3]; exact (Int32.ofNat_add _ _).symm
    have hr : ∀ a, ¬ (a = 0 ∨ a = 12) → pa1 (paF f n) a = f a := fun a ha => (pa1_row (by omega)).trans (i1 a ha)
    have h00 : ∀ b, ¬ b = 3 → pa1 (paF f n) 0 b = f 0 b := fun b hb => (pa1_0 hb).trans (i2 b hb)
    have h12 : pa1 (paF f n) 12 = rpF f (due f (nI (dy + n))) 2 12 := (pa1_row (by omega)).trans i4
    have hD : nD (pa1 (paF f n)) = 2 := by rw [← hD2]; unfold nD; rw [h00 2 (by omega)]
    have hT : nT (pa1 (paF f n)) = nT f := by unfold nT; rw [h00 1 (by omega)]
    have hdu : due (pa1 (paF f n)) (nI (dy + (n + 1))) = due f (nI (dy + (n + 1))) := by
      unfold due
      rw [hT, hr 5 (by omega), hr 8 (by omega), hr 9 (by omega)]
    obtain ⟨X, hX⟩ : ∃ X, X = due f (nI (dy + n)) := ⟨_, rfl⟩
    obtain ⟨Y, hY⟩ : ∃ Y, Y = due f (nI (dy + (n + 1))) := ⟨_, rfl⟩
    rw [← hX] at i4 i5 h12
    rw [← hY] at hdu ⊢
    have hXY : ∀ k, k < nT f → hs X (nI k) = true → hs Y (nI k) = true := by
      rw [hX, hY]
      exact due_le hT24 ((g_le (by omega) (by omega)).mpr (by omega))
    have hag : agX (rpF f X 2) (pa1 (paF f n)) := ⟨h12, by rw [hr 11 (by omega), rpF_row (by omega)], fun t ht => by rw [hr (40 + t) (by omega), rpF_row (by omega)], by rw [hD, rp_R.D, hD2], by rw [rp_R.D, hD2]; omega⟩
    have eF : paF f (n + 1) = rpF (pa1 (paF f n)) Y 2 := by
      show rpF (pa1 (paF f n)) (due (pa1 (paF f n)) (paF f n 0 3 + nI 1)) (nD (pa1 (paF f n))) = _
      rw [e3, hdu, hD]
    have eN : paN f (n + 1) = paN f n + roN (pa1 (paF f n)) Y := by
      show paN f n + roN (pa1 (paF f n)) (due (pa1 (paF f n)) (paF f n 0 3 + nI 1)) = _
      rw [e3, hdu]
    have e12 : rpF (rpF f X 2) Y 2 12 = rpF f Y 2 12 := rp_rp hJ.use hT24 hXY
    refine ⟨fun a ha => ?_, fun b hb => ?_, ?_, ?_, ?_⟩
    · rw [eF, rpF_row (by omega)]; exact hr a ha
    · rw [eF, rpF_row (show 0 ≠ 12 by omega)]; exact h00 b hb
    · rw [eF, rpF_row (show 0 ≠ 12 by omega)]
      exact (gset_eq _ _ _ _).trans e3
    · rw [eF, hag.rp, e12]
    · rw [eN, i5, hag.ro]
      have a1 := rp_ts1 (f := f) (x := X) hD2 hJ.ap
      have a2 := rp_ts1 (f := f) (x := Y) hD2 hJ.ap
      have a3 := rp_ts1 (f := rpF f X 2) (x := Y) (by rw [rp_R.D, hD2]) (fun t ht z => by
        rw [rp_R.L]
        rcases rp_12 (f := f) (x := X) (n := 2) (t := t) with y | ⟨y, _⟩
        · exact hJ.ap t ht (y.symm.trans z)
        · rw [y] at z; exact absurd z (by decide))
      have a4 : tsN (rpF (rpF f X 2) Y 2) (nI 1) = tsN (rpF f Y 2) (nI 1) := ts_row e12 (by rw [rpF_row (by omega), rpF_row (by omega), rpF_row (by omega)]) (by rw [rp_R.D, rp_R.D, rp_R.D]) _
      omega
/-- days: as many are reopened as was foreseen, and so many fewer are APPROVED -/
theorem pa_all {f : CS} {dy n : Nat} (hJ : J f dy) (hn : dy + n ≤ 199) : nI (paN f n) = riF f n ∧ tsN (paF f n) (nI 1) + paN f n = tsN f (nI 1) ∧ tsN f (nI 2) ≤ tsN (paF f n) (nI 2) := by
  obtain ⟨i1, i2, i3, i4, i5⟩ := pa_ans hJ n hn
  obtain ⟨hD2, _, _, hdy, hd9⟩ := hJ.1.2.1
  have hD : nD (paF f n) = nD f := by unfold nD; rw [i2 2 (by omega)]
  have e : ∀ x, tsN (paF f n) x = tsN (rpF f (due f (nI (dy + n))) 2) x := fun x => ts_row i4 (by rw [i1 11 (by omega), rpF_row (by omega)]) (by rw [hD, rp_R.D]) x
  refine ⟨?_, ?_, ?_⟩
  · unfold riF
    rw [i5, hdy, show nI dy + nI n = nI (dy + n) from (Int32.ofNat_add _ _).symm]
  · rw [e, i5]
    exact rp_ts1 hD2 hJ.ap
  · rw [e]
    exact rp_ts2
