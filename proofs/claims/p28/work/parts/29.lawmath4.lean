/-! What areTextsRight counts. -/
def xsA (f : CS) (t : Nat) : Nat → Int32 := fun x => if x < 3 then nI (ct (fun k => decide (0 < nL f k ∧ f 12 k = nI x)) t) else 0
theorem xsA_0 (f : CS) : xsA f 0 = fun _ => 0 := by funext x; unfold xsA; split <;> rfl
theorem xsA_at {f : CS} {t x : Nat} (h : x < 3) : xsA f t x = nI (ct (fun k => decide (0 < nL f k ∧ f 12 k = nI x)) t) := if_pos h
theorem xsA_n {f : CS} {t : Nat} (h : nL f t = 0) : xsA f (t + 1) = xsA f t := by
  funext x
  unfold xsA
  by_cases q : x < 3
  · rw [if_pos q, if_pos q, ct_n (fun z => by have := (of_decide_eq_true z).1; omega)]
  · rw [if_neg q, if_neg q]
theorem xsA_y {f : CS} {t s : Nat} (h : 0 < nL f t) (e : f 12 t = nI s) (hs4 : s < 3) : xsA f (t + 1) = upd (xsA f t) s (xsA f t s + nI 1) := by
  funext x
  unfold upd xsA
  by_cases q : x < 3
  · simp only [if_pos q, if_pos hs4]
    by_cases hx : x = s
    · subst hx
      rw [ct_y (decide_eq_true ⟨h, e⟩), if_pos rfl]
      exact Int32.ofNat_add _ _
    · rw [if_neg hx, ct_n (fun z => hx ((g_eq (by omega) (by omega)).mp ((of_decide_eq_true z).2.symm.trans e)))]
  · simp only [if_neg q]
    rw [if_neg (by omega)]
theorem uI_uA {f : CS} (hI : gI f) (hU : hUse f) {t : Nat} (ht : t < 18) (x : Int32) : uI f t x ≤ uA f t (-1) := ct_mono (fun p hp q => by
  have hT24 := hI.1.2
  rcases hU t ht p hp with e | ⟨u, hu, e, _, _⟩
  · have z := (of_decide_eq_true q).1.1
    rw [e] at z
    exact absurd z (by decide)
  · exact decide_eq_true ⟨by rw [e]; exact nI_ne1 (by omega), by rw [e]; exact hs_all (by omega)⟩)
theorem csN_100 {f : CS} (hI : gI f) (hU : hUse f) {t : Nat} (ht : t < 18) : csN f t ≤ 100 := by
  have h1 := uI_uA hI hU ht (nI 2)
  unfold csN
  split
  · exact Nat.le_refl _
  · rename_i h
    refine Nat.le_trans (Nat.div_le_div_right (Nat.mul_le_mul_left 100 h1)) ?_
    rw [Nat.mul_div_cancel _ (Nat.pos_of_ne_zero h)]
    exact Nat.le_refl _
theorem sc_le {f : CS} (hI : gI f) (hU : hUse f) {k : Nat} (hk : k ≤ 6) : sm (fun t => if 0 < nL f t then csN f t else 0) k ≤ 600 := by
  have := sm_le (g := fun t => if 0 < nL f t then csN f t else 0) (b := 100) (n := k) (fun t ht => by
    show (if 0 < nL f t then csN f t else 0) ≤ 100
    split
    · exact csN_100 hI hU (by omega)
    · exact Nat.zero_le _)
  omega
theorem sc_all {f : CS} (hI : gI f) (hU : hUse f) (hD2 : nD f = 2) : scN f ≤ 600 := sc_le hI hU (by omega)
theorem tw_all {f : CS} (hD2 : nD f = 2) : twN f ≤ 6 := Nat.le_trans (ct_le _ _) (by omega)
theorem i2d_nn0 : ∀ n, n < 601 → (FP.i2d (nI n) &&& 0x7fffffffffffffff ≤ 0x7ff0000000000000) := by decide +kernel
theorem i2d_nn {n : Nat} (h : n ≤ 600) : vf_n64 (FP.i2d (nI n)) := i2d_nn0 n (by omega)
theorem sc_n {f : CS} {t : Nat} (h : nL f t = 0) : FP.i2d (nI (sm (fun t => if 0 < nL f t then csN f t else 0) (t + 1))) = FP.i2d (nI (sm (fun t => if 0 < nL f t then csN f t else 0) t)) := by
  congr 2
  show _ + (if 0 < nL f t then csN f t else 0) = _
  rw [if_neg (by omega)]
  rfl
theorem sc_y {f : CS} {t : Nat} (h : ¬ nL f t = 0) : FP.i2d (nI (sm (fun t => if 0 < nL f t then csN f t else 0) (t + 1))) = FP.i2d (nI (sm (fun t => if 0 < nL f t then csN f t else 0) t + csN f t)) := by
  congr 2
  show _ + (if 0 < nL f t then csN f t else 0) = _
  rw [if_pos (by omega)]
theorem mz0 {f : CS} (hD2 : nD f = 2) (h : ct (fun t => decide (0 < nL f t)) (2 * 3) = 0) : FP.dsub (mcF f) FP.dconst0 = 0 := by
  have e : twN f = 0 := by unfold twN; rw [hD2]; exact h
  unfold mcF
  rw [if_pos e]
  decide +kernel
theorem mz1 {f : CS} (hI : gI f) (hU : hUse f) (hD2 : nD f = 2) (h : ¬ ct (fun t => decide (0 < nL f t)) (2 * 3) = 0) : FP.dsub (mcF f) (FP.ddiv (FP.i2d (nI (sm (fun t => if 0 < nL f t then csN f t else 0) (2 * 3)))) (FP.i2d (nI (ct (fun t => decide (0 < nL f t)) (2 * 3))))) = 0 := by
  have e : twN f = ct (fun t => decide (0 < nL f t)) (2 * 3) := by unfold twN; rw [hD2]
  have e2 : scN f = sm (fun t => if 0 < nL f t then csN f t else 0) (2 * 3) := by unfold scN; rw [hD2]
  have h1 := sc_all hI hU hD2
  have h2 := tw_all hD2
  rw [← e] at h
  rw [← e, ← e2]
  unfold mcF
  rw [if_neg h]
  exact (fp_q h1 (by omega) h2).2
theorem ban_of {f : CS} {dy u : Nat} (hM : hTm f dy) (hu : u < nT f) (e : f 5 u = nI 3) : ∃ b, b ≤ dy ∧ f 8 u = nI b := by
  obtain ⟨c, g, x, s, _, _, _, hs4, _, _, _, e5, eb, _⟩ := hM u hu
  exact eb ((g_eq (by omega) (by omega)).mp (e5.symm.trans e))
theorem fp_c0 {g : Nat → Nat} : FP.dconst0 = FP.i2d (nI (sm g (0 * 3))) := by
  show FP.dconst0 = FP.i2d (nI 0)
  decide +kernel
theorem tx_n {f : CS} {t : Nat} (h : nL f t = 0) : ct (fun t => decide (0 < nL f t)) (t + 1) = ct (fun t => decide (0 < nL f t)) t := ct_n (fun q => by have := of_decide_eq_true q; omega)
theorem tx_y {f : CS} {t : Nat} (h : ¬ nL f t = 0) : ct (fun t => decide (0 < nL f t)) (t + 1) = ct (fun t => decide (0 < nL f t)) t + 1 := ct_y (decide_eq_true (by omega))
theorem nn0 : vf_n64 0 := by
  unfold vf_n64
  decide
