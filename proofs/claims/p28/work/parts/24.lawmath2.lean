/-! What areUsesRight counts. -/
def uxN (f : CS) (t p x : Nat) : Nat := sm (fun t => ct (fun p => decide (f (40 + t) p = nI x)) (nL f t)) t + ct (fun p => decide (f (40 + t) p = nI x)) p
def uxA (f : CS) (t p : Nat) : Nat → Int32 := fun x => if x < 24 then nI (uxN f t p x) else 0
theorem uxA_0 (f : CS) : uxA f 0 0 = fun _ => 0 := by
  funext x
  unfold uxA
  split <;> rfl
theorem uxA_e (f : CS) (t : Nat) : uxA f (t + 1) 0 = uxA f t (nL f t) := rfl
theorem uxA_n {f : CS} {t p : Nat} (e : f (40 + t) p = -1) : uxA f t (p + 1) = uxA f t p := by
  funext x
  unfold uxA
  by_cases h : x < 24
  · rw [if_pos h, if_pos h]
    unfold uxN
    rw [ct_n (fun q => nI_ne1 (u := x) (by omega) ((of_decide_eq_true q).symm.trans e))]
  · rw [if_neg h, if_neg h]
theorem uxA_y {f : CS} {t p u : Nat} (e : f (40 + t) p = nI u) (hu : u < 24) : uxA f t (p + 1) = upd (uxA f t p) u (uxA f t p u + nI 1) := by
  funext x
  unfold upd uxA
  by_cases h : x < 24
  · simp only [if_pos h, if_pos hu]
    unfold uxN
    by_cases hx : x = u
    · subst hx
      rw [ct_y (decide_eq_true e), if_pos rfl, ← Nat.add_assoc]
      exact Int32.ofNat_add _ _
    · rw [if_neg hx, ct_n (fun q => hx ((g_eq (by omega) (by omega)).mp ((of_decide_eq_true q).symm.trans e)))]
  · simp only [if_neg h]
    rw [if_neg (by omega)]
theorem uA_bit {f : CS} (hI : gI f) (hU : hUse f) {t x : Nat} (ht : t < 18) (hx : x < 24) : uA f t (bit x) = ct (fun p => decide (f (40 + t) p = nI x)) (nL f t) := by
  have hT24 := hI.1.2
  refine ct_cong (fun p hp => decide_eq_decide.mpr ?_)
  rcases hU t ht p hp with e | ⟨u, hu, e, _, _⟩
  · rw [e]
    exact ⟨fun q => absurd rfl q.1, fun q => absurd q.symm (nI_ne1 (by omega))⟩
  · rw [e, hs_bit (by omega) (by omega)]
    constructor
    · rintro ⟨_, h⟩; rw [h]
    · intro h; exact ⟨nI_ne1 (by omega), (g_eq (by omega) (by omega)).mp h⟩
theorem uxA_end {f : CS} (hI : gI f) (hU : hUse f) {x : Nat} (hx : x < 24) : nI (usN f (bit x)) = uxA f (nD f * 3) 0 x := by
  have hD6 := hI.2.2.1.2
  unfold uxA
  rw [if_pos hx]
  show nI (usN f (bit x)) = nI (sm _ (nD f * 3) + 0)
  rw [Nat.add_zero]
  exact congrArg nI (sm_cong (fun t ht => uA_bit hI hU (by omega) hx))
theorem fb_ge {f : CS} {t : Nat} (hL : nL f t ≤ 12) : nI 0 ≤ fbI f t ↔ ¬ uI f t (nI 3) = 0 := by
  unfold fbI fbN uI
  rcases fst_cases (fun p => decide (uS f t p (nI 3))) (nL f t) with ⟨h1, h2, h3⟩ | ⟨h1, h2⟩
  · rw [if_pos h1]
    refine ⟨fun _ q => ?_, fun _ => nI_pos' (by omega)⟩
    have key : ∀ n, fst (fun p => decide (uS f t p (nI 3))) (nL f t) < n → 0 < ct (fun p => decide (uS f t p (nI 3))) n := by
      intro n
      induction n with
      | zero => intro h; omega
      | succ n ih =>
        intro h
        by_cases e : fst (fun p => decide (uS f t p (nI 3))) (nL f t) = n
        · rw [e] at h2
          rw [ct_y h2]; omega
        · have := ih (by omega)
          show 0 < ct _ n + _
          omega
    have := key _ h1
    omega
  · rw [h1, if_neg (Nat.lt_irrefl _)]
    refine ⟨fun q => absurd q (by decide), fun q => absurd (ct_0 h2) q⟩
theorem ct_mono {p q : Nat → Bool} : ∀ {n : Nat}, (∀ k, k < n → p k = true → q k = true) → ct p n ≤ ct q n
  | 0, _ => Nat.le_refl _
  | n + 1, h => by
    have ih := ct_mono (p := p) (q := q) (n := n) (fun k hk => h k (by omega))
    by_cases e : p n = true
    · rw [ct_y e, ct_y (h n (by omega) e)]; omega
    · rw [ct_n e]
      show _ ≤ ct q n + _
      omega
theorem pcn_and (x y : Int32) : pcn (x &&& y) ≤ pcn x := ct_mono (fun k _ h => by
  rw [Int32.toBitVec_and, BitVec.getLsbD_and, Bool.and_eq_true] at h
  exact h.1)
theorem agN_le (f : CS) (d : Nat) : agN f d ≤ 100 := by
  unfold agN
  split
  · exact Nat.le_refl _
  · rename_i h
    have h1 := pcn_and (agS f d 3).1 (agS f d 3).2
    refine Nat.le_trans (Nat.div_le_div_right (Nat.mul_le_mul_left 100 h1)) ?_
    rw [Nat.mul_div_cancel _ (Nat.pos_of_ne_zero h)]
    exact Nat.le_refl _
theorem agN_lt {f : CS} {d : Nat} : agN f d < 2 ^ 31 := Nat.lt_of_le_of_lt (agN_le f d) (by decide)
theorem sm_le {g : Nat → Nat} {b : Nat} : ∀ {n : Nat}, (∀ k, k < n → g k ≤ b) → sm g n ≤ b * n
  | 0, _ => Nat.zero_le _
  | n + 1, h => by
    have h1 := sm_le (g := g) (b := b) (n := n) (fun k hk => h k (by omega))
    have h2 := h n (by omega)
    show sm g n + g n ≤ b * n + b
    omega
theorem all_lt {f : CS} (hI : gI f) {x : Int32} {k : Nat} (hk : k ≤ 18) : sm (fun t => uA f t x) k < 2 ^ 31 := by
  have := sm_le (g := fun t => uA f t x) (b := 12) (n := k) (fun t ht => Nat.le_trans (uA_le _ _ _) (hI.2.2.2 t (by omega)).2)
  omega
theorem us_lt {f : CS} (hI : gI f) {x : Int32} : usN f x < 2 ^ 31 := all_lt hI (by have := hI.2.2.1.2; omega)
theorem ts_lt {f : CS} (hI : gI f) {x : Int32} : tsN f x < 2 ^ 31 := Nat.lt_of_le_of_lt (ct_le _ _) (by have := hI.2.2.1.2; omega)
