/-! Sets of terms as bits; sums that the law counts twice. -/
theorem hs_sh : ∀ k, k < 32 → ((nI k &&& 31).toBitVec.smod 32).toNat = k := by decide +kernel
theorem hs_iff {x : Int32} {k : Nat} (hk : k < 32) : hs x (nI k) = true ↔ x.toBitVec.getLsbD k = true := by
  have e1 : ((x >>> (nI k &&& 31)) &&& nI 1) = 0 ↔ x.toBitVec.getLsbD k = false := by
    rw [← Int32.toBitVec_inj]
    have e2 : (x >>> (nI k &&& 31)).toBitVec = x.toBitVec.sshiftRight' ((nI k &&& 31).toBitVec.smod 32) := rfl
    rw [Int32.toBitVec_and, e2, BitVec.sshiftRight_eq', hs_sh k hk]
    constructor
    · intro h
      have h1 := congrArg (fun v => BitVec.getLsbD v 0) h
      have h2 : (nI 1).toBitVec.getLsbD 0 = true := by decide
      have h3 : (0 : Int32).toBitVec.getLsbD 0 = false := by decide
      simp only [BitVec.getLsbD_and, h2, h3, Bool.and_true] at h1
      rw [BitVec.getLsbD_sshiftRight] at h1
      simpa [hk] using h1
    · intro h
      apply BitVec.eq_of_getLsbD_eq
      intro i hi
      have h3 : (0 : Int32).toBitVec.getLsbD i = false := by simp
      rw [h3, BitVec.getLsbD_and]
      rcases Nat.eq_zero_or_pos i with rfl | hp
      · have h5 : (x.toBitVec.sshiftRight k).getLsbD 0 = false := by
          rw [BitVec.getLsbD_sshiftRight]
          simp only [Nat.add_zero, hk, if_true, h]
          simp
        rw [h5, Bool.false_and]
      · have h4 : (nI 1).toBitVec.getLsbD i = false := by
          have : ∀ i, i < 32 → 0 < i → (nI 1).toBitVec.getLsbD i = false := by decide +kernel
          exact this i hi hp
        rw [h4, Bool.and_false]
  unfold hs
  rw [decide_eq_true_iff, e1]
  cases x.toBitVec.getLsbD k <;> simp
theorem bit_at : ∀ n, n < 32 → ∀ k, k < 32 → ((bit n).toBitVec.getLsbD k = decide (k = n)) := by decide +kernel
theorem hs_bit {n k : Nat} (hn : n < 32) (hk : k < 32) : hs (bit n) (nI k) = true ↔ k = n := by
  rw [hs_iff hk, bit_at n hn k hk, decide_eq_true_iff]
theorem hs_all {k : Nat} (hk : k < 32) : hs (-1) (nI k) = true := by
  rw [hs_iff hk]
  have : ∀ k, k < 32 → (-1 : Int32).toBitVec.getLsbD k = true := by decide +kernel
  exact this k hk
theorem hs_or {x y : Int32} {k : Nat} (hk : k < 32) : hs (x ||| y) (nI k) = true ↔ hs x (nI k) = true ∨ hs y (nI k) = true := by
  rw [hs_iff hk, hs_iff hk, hs_iff hk, Int32.toBitVec_or, BitVec.getLsbD_or, Bool.or_eq_true]
theorem hs_0 {k : Nat} (hk : k < 32) : ¬ hs 0 (nI k) = true := by
  rw [hs_iff hk]
  simp
theorem mk_at (p : Nat → Bool) {k : Nat} (hk : k < 32) : ∀ {n : Nat}, n ≤ 32 → (hs (mk p n) (nI k) = true ↔ k < n ∧ p k = true)
  | 0, _ => ⟨fun h => absurd h (hs_0 hk), fun h => absurd h.1 (Nat.not_lt_zero _)⟩
  | n + 1, hn => by
    have ih := mk_at p hk (n := n) (by omega)
    unfold mk
    by_cases h : p n = true
    · rw [if_pos h, hs_or hk, ih, hs_bit (by omega) hk]
      constructor
      · rintro (⟨a, b⟩ | rfl)
        · exact ⟨by omega, b⟩
        · exact ⟨by omega, h⟩
      · rintro ⟨a, b⟩
        by_cases e : k = n
        · exact Or.inr e
        · exact Or.inl ⟨by omega, b⟩
    · rw [if_neg h, ih]
      constructor
      · rintro ⟨a, b⟩; exact ⟨by omega, b⟩
      · rintro ⟨a, b⟩
        refine ⟨?_, b⟩
        have : ¬ k = n := fun e => h (e ▸ b)
        omega
theorem ofC_at {f : CS} (hT : nT f ≤ 24) {c : Int32} {k : Nat} (hk : k < nT f) : hs (ofC f c) (nI k) = true ↔ f 2 k = c := by
  unfold ofC
  rw [mk_at _ (by omega) (by omega)]
  exact ⟨fun h => of_decide_eq_true h.2, fun h => ⟨hk, decide_eq_true h⟩⟩
theorem sm_cong {g h : Nat → Nat} : ∀ {n : Nat}, (∀ k, k < n → g k = h k) → sm g n = sm h n
  | 0, _ => rfl
  | n + 1, e => by
    show sm g n + g n = sm h n + h n
    rw [sm_cong (fun k hk => e k (by omega)), e n (by omega)]
theorem sm_add (g h : Nat → Nat) : ∀ n, sm (fun k => g k + h k) n = sm g n + sm h n
  | 0 => rfl
  | n + 1 => by
    show sm (fun k => g k + h k) n + (g n + h n) = (sm g n + g n) + (sm h n + h n)
    rw [sm_add g h n]; omega
theorem sm_zero {g : Nat → Nat} : ∀ {n : Nat}, (∀ k, k < n → g k = 0) → sm g n = 0
  | 0, _ => rfl
  | n + 1, e => by
    show sm g n + g n = 0
    rw [sm_zero (fun k hk => e k (by omega)), e n (by omega)]
theorem sm_swap (g : Nat → Nat → Nat) (m : Nat) : ∀ n, sm (fun c => sm (fun t => g c t) m) n = sm (fun t => sm (fun c => g c t) n) m
  | 0 => (sm_zero (fun _ _ => rfl)).symm
  | n + 1 => by
    show sm (fun c => sm (fun t => g c t) m) n + sm (fun t => g n t) m = _
    rw [sm_swap g m n, ← sm_add]
    rfl
theorem sm_one {g : Nat → Nat} {c : Nat} (h1 : g c = 1) : ∀ {n : Nat}, (∀ k, k < n → ¬ k = c → g k = 0) → c < n → sm g n = 1
  | 0, _, h => absurd h (Nat.not_lt_zero _)
  | n + 1, h0, h => by
    show sm g n + g n = 1
    by_cases e : c = n
    · subst e
      rw [h1, sm_zero (fun k hk => h0 k (by omega) (by omega))]
    · rw [sm_one h1 (fun k hk => h0 k (by omega)) (by omega), h0 n (by omega) (fun z => e z.symm)]
/-- a count in parts is the count of all -/
theorem ct_parts {P : Nat → Nat → Bool} {q : Nat → Bool} {N : Nat} : ∀ {n : Nat}, (∀ p, p < n → (q p = true ∧ ∃ c, c < N ∧ ∀ k, k < N → P k p = decide (k = c)) ∨ (¬ q p = true ∧ ∀ k, ¬ P k p = true)) → sm (fun c => ct (P c) n) N = ct q n
  | 0, _ => sm_zero (fun _ _ => rfl)
  | n + 1, h => by
    have ih := ct_parts (P := P) (q := q) (N := N) (n := n) (fun p hp => h p (by omega))
    have e : sm (fun c => ct (P c) (n + 1)) N = sm (fun c => ct (P c) n) N + sm (fun c => if P c n = true then 1 else 0) N := sm_add _ _ N
    rw [e, ih]
    show ct q n + _ = ct q n + _
    congr 1
    rcases h n (by omega) with ⟨a, c, hc, b⟩ | ⟨a, b⟩
    · rw [if_pos a]
      exact sm_one (by show (if P c n = true then 1 else 0) = 1; rw [b c hc, if_pos (by simp)]) (fun k hk9 hk => by show (if P k n = true then 1 else 0) = 0; rw [b k hk9, if_neg (by simpa using hk)]) hc
    · rw [if_neg a]
      exact sm_zero (fun k _ => if_neg (b k))
/-- every use is a term of its language that is not PROPOSED -/
def hUse (f : CS) : Prop := ∀ t, t < 18 → ∀ p, p < nL f t → f (40 + t) p = -1 ∨ ∃ u, u < nT f ∧ f (40 + t) p = nI u ∧ f 3 u = nI (t % 3) ∧ ¬ f 5 u = nI 0
theorem nI_ne1 {u : Nat} (h : u < 2 ^ 31) : ¬ nI u = -1 := fun e => by
  have := congrArg Int32.toInt e
  rw [nI_toInt h] at this
  have h2 : (-1 : Int32).toInt = -1 := by decide
  omega
theorem us_parts {f : CS} (hI : gI f) (hU : hUse f) (hCo : ∀ k, k < nT f → ∃ c, c < nC f ∧ f 2 k = nI c) : sm (fun c => usN f (ofC f (nI c))) (nC f) = usN f (-1) := by
  unfold usN
  rw [sm_swap]
  refine sm_cong (fun t ht => ?_)
  have hT24 := hI.1.2
  have hC12 := hI.2.1.2
  have hD6 := hI.2.2.1.2
  refine ct_parts (fun p hp => ?_)
  rcases hU t (by omega) p hp with e | ⟨u, hu, e, _, _⟩
  · exact Or.inr ⟨fun q => (of_decide_eq_true q).1 e, fun k q => (of_decide_eq_true q).1 e⟩
  · obtain ⟨c, hc, ec⟩ := hCo u hu
    refine Or.inl ⟨decide_eq_true ⟨by rw [e]; exact nI_ne1 (by omega), by rw [e]; exact hs_all (by omega)⟩, c, hc, fun k hk => ?_⟩
    rw [e]
    refine decide_eq_decide.mpr ?_
    rw [ofC_at hT24 hu, ec]
    constructor
    · rintro ⟨_, h⟩
      exact ((g_eq (by omega) (by omega)).mp h).symm
    · rintro rfl
      exact ⟨nI_ne1 (by omega), rfl⟩
