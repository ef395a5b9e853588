/-! What approve and split leave. -/
theorem ct_more {p q : Nat → Bool} {t : Nat} (hp : ¬ p t = true) (hq : q t = true) (h : ∀ k, ¬ k = t → p k = q k) : ∀ {n : Nat}, t < n → ct q n = ct p n + 1
  | 0, ht => absurd ht (Nat.not_lt_zero _)
  | n + 1, ht => by
    by_cases e : n = t
    · subst e
      rw [ct_y hq, ct_n hp, ct_cong (p := q) (q := p) (fun k hk => (h k (by omega)).symm)]
    · have ih := ct_more hp hq h (n := n) (by omega)
      show ct q n + _ = ct p n + _ + 1
      rw [ih, h n e]
      omega
theorem ap_ts {f : CS} {t : Nat} (ht : t < nD f * 3) (hL : 0 < nL f t) (h1 : ¬ f 12 t = nI 1) : tsN (apF f t) (nI 1) = tsN f (nI 1) + 1 := by
  have hr : ∀ a, ¬ a = 12 → apF f t a = f a := fun a ha => by
    funext b
    exact gset_row0 ha
  have hD : nD (apF f t) = nD f := by unfold nD; rw [hr 0 (by omega)]
  have hl : ∀ k, nL (apF f t) k = nL f k := fun k => by unfold nL; rw [hr 11 (by omega)]
  unfold tsN
  rw [hD]
  refine ct_more (fun z => h1 (of_decide_eq_true z).2) (decide_eq_true ⟨by rw [hl]; exact hL, gset_eq _ _ _ _⟩) (fun k hk => decide_eq_decide.mpr ?_) ht
  have e : apF f t 12 k = f 12 k := gset_ne (by omega)
  rw [hl, e]
theorem bit_pos : ∀ t, t < 24 → ¬ bit t < nI 1 := by decide +kernel
theorem bit_part {f : CS} (hT : nT f ≤ 24) {t : Nat} (ht : t < nT f) {c : Int32} (e : f 2 t = c) : bit t &&& (ofC f c ^^^ (-1)) = 0 := by
  apply Int32.toBitVec_inj.mp
  apply BitVec.eq_of_getLsbD_eq
  intro i hi
  have h0 : (0 : Int32).toBitVec.getLsbD i = false := by simp
  rw [h0]
  cases q : (bit t &&& (ofC f c ^^^ (-1))).toBitVec.getLsbD i with
  | false => rfl
  | true =>
    have z := (hs_iff hi).mpr q
    rw [hs_and hi, hs_bit (by omega) hi, hs_not hi] at z
    obtain ⟨z1, z2⟩ := z
    subst z1
    exact absurd ((ofC_at hT ht).mpr e) z2
