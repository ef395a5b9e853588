/-! Three votes for a term. -/
theorem ra_row {f : CS} {a : Nat} (hI : gI f) (h1 : a < 12) : raA f a = f a := by
  have hD6 := hI.2.2.1.2
  unfold raA
  rw [rpF_row (by omega)]
  exact rlF_ag (by omega) a (by omega)
theorem vo_st {f : CS} {t : Nat} {v : Int32} (hI : gI f) (h0 : f 5 t = nI 0) (h7 : pcn (f 7 t) ≤ 2) : (3 ≤ pcn (f 6 t ||| (nI 1 <<< (v &&& 31))) ∧ voF f t v True 5 t = nI 1) ∨ (¬ 3 ≤ pcn (f 6 t ||| (nI 1 <<< (v &&& 31))) ∧ voF f t v True 5 t = nI 0 ∧ voF f t v True 6 t = f 6 t ||| (nI 1 <<< (v &&& 31)) ∧ voF f t v True 7 t = f 7 t) := by
  by_cases q : 3 ≤ pcn (f 6 t ||| (nI 1 <<< (v &&& 31)))
  · have e := avF_ya (f := f) (t := t) (v := v) trivial q
    have e5 : avF f t v True 5 t = nI 1 := by
      rw [e]
      unfold mkF
      split
      · rw [gset_row0 (by omega), gset_eq]
      · rw [gset_eq]
    refine Or.inl ⟨q, ?_⟩
    unfold voF
    rw [if_pos e5, ra_row (avI hI) (by omega)]
    exact e5
  · have e := avF_yn (f := f) (t := t) (v := v) trivial q (by omega)
    have e5 : ¬ avF f t v True 5 t = nI 1 := by
      rw [e, gset_row0 (by omega), h0]
      decide
    refine Or.inr ⟨q, ?_⟩
    unfold voF
    rw [if_neg e5, e]
    exact ⟨by rw [gset_row0 (by omega)]; exact h0, gset_eq _ _ _ _, by rw [gset_row0 (by omega)]⟩
theorem pcn_3 {x : Int32} (h0 : hs x (nI 0) = true) (h1 : hs x (nI 1) = true) (h2 : hs x (nI 2) = true) : 3 ≤ pcn x := by
  rw [hs_iff (by omega)] at h0 h1 h2
  unfold pcn
  have e := ct_add (fun i => x.toBitVec.getLsbD i) 3 29
  have : ct (fun i => x.toBitVec.getLsbD i) 3 = 3 := by
    rw [ct_y h2, ct_y h1, ct_y h0]
    rfl
  have e2 : ct (fun i => x.toBitVec.getLsbD i) 32 = ct (fun i => x.toBitVec.getLsbD i) (3 + 29) := rfl
  omega
