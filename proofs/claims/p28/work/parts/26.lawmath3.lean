/-! What areTermsRight counts. -/
def tnA (f : CS) (t : Nat) : Nat → Int32 := fun x => if x < 4 then nI (ct (fun k => decide (f 5 k = nI x)) t) else 0
def pfN (f : CS) (c g t : Nat) : Nat := ct (fun k => decide (f 5 k = nI 2 ∧ f 2 k = nI c ∧ f 3 k = nI g)) t
def pfA (f : CS) (t : Nat) : Nat → Int32 := fun x => if x < 36 then nI (pfN f (x / 3) (x % 3) t) else 0
def stO (f : CS) (c g : Nat) : Nat → Int32
  | 0 => 0
  | k + 1 => if f 2 k = nI c ∧ f 3 k = nI g then stO f c g k ||| (nI 1 <<< (f 4 k &&& 31)) else stO f c g k
def stA (f : CS) (t : Nat) : Nat → Int32 := fun x => if x < 36 then stO f (x / 3) (x % 3) t else 0
def ofN (f : CS) (c t : Nat) : Nat := ct (fun k => decide (f 2 k = nI c)) t
def ofA (f : CS) (t : Nat) : Nat → Int32 := fun x => if x < 12 then nI (ofN f x t) else 0
theorem tnA_0 (f : CS) : tnA f 0 = fun _ => 0 := by funext x; unfold tnA; split <;> rfl
theorem pfA_0 (f : CS) : pfA f 0 = fun _ => 0 := by funext x; unfold pfA; split <;> rfl
theorem stA_0 (f : CS) : stA f 0 = fun _ => 0 := by funext x; unfold stA; split <;> rfl
theorem ofA_0 (f : CS) : ofA f 0 = fun _ => 0 := by funext x; unfold ofA; split <;> rfl
theorem tnA_y {f : CS} {t s : Nat} (e : f 5 t = nI s) (hs4 : s < 4) : tnA f (t + 1) = upd (tnA f t) s (tnA f t s + nI 1) := by
  funext x
  unfold upd tnA
  by_cases h : x < 4
  · simp only [if_pos h, if_pos hs4]
    by_cases hx : x = s
    · subst hx
      rw [ct_y (decide_eq_true e), if_pos rfl]
      exact Int32.ofNat_add _ _
    · rw [if_neg hx, ct_n (fun q => hx ((g_eq (by omega) (by omega)).mp ((of_decide_eq_true q).symm.trans e)))]
  · simp only [if_neg h]
    rw [if_neg (by omega)]
theorem ofA_y {f : CS} {t c : Nat} (e : f 2 t = nI c) (hc : c < 12) : ofA f (t + 1) = upd (ofA f t) c (ofA f t c + nI 1) := by
  funext x
  unfold upd ofA
  by_cases h : x < 12
  · simp only [if_pos h, if_pos hc]
    unfold ofN
    by_cases hx : x = c
    · subst hx
      rw [ct_y (decide_eq_true e), if_pos rfl]
      exact Int32.ofNat_add _ _
    · rw [if_neg hx, ct_n (fun q => hx ((g_eq (by omega) (by omega)).mp ((of_decide_eq_true q).symm.trans e)))]
  · simp only [if_neg h]
    rw [if_neg (by omega)]
theorem pfA_at {f : CS} {t c g : Nat} (hc : c < 12) (hg : g < 3) : pfA f t (c * 3 + g) = nI (pfN f c g t) := by
  unfold pfA
  rw [if_pos (by omega), show (c * 3 + g) / 3 = c by omega, show (c * 3 + g) % 3 = g by omega]
theorem stA_at {f : CS} {t c g : Nat} (hc : c < 12) (hg : g < 3) : stA f t (c * 3 + g) = stO f c g t := by
  unfold stA
  rw [if_pos (by omega), show (c * 3 + g) / 3 = c by omega, show (c * 3 + g) % 3 = g by omega]
theorem ofA_at {f : CS} {t c : Nat} (hc : c < 12) : ofA f t c = nI (ofN f c t) := if_pos hc
theorem tnA_at {f : CS} {t s : Nat} (h : s < 4) : tnA f t s = nI (ct (fun k => decide (f 5 k = nI s)) t) := if_pos h
theorem pfA_y {f : CS} {t c g : Nat} (e5 : f 5 t = nI 2) (e2 : f 2 t = nI c) (e3 : f 3 t = nI g) (hc : c < 12) (hg : g < 3) : pfA f (t + 1) = upd (pfA f t) (c * 3 + g) (pfA f t (c * 3 + g) + nI 1) := by
  funext x
  unfold upd
  by_cases hx : x = c * 3 + g
  · subst hx
    rw [if_pos rfl, pfA_at hc hg, pfA_at hc hg]
    unfold pfN
    rw [ct_y (decide_eq_true ⟨e5, e2, e3⟩)]
    exact Int32.ofNat_add _ _
  · rw [if_neg hx]
    unfold pfA
    by_cases h : x < 36
    · rw [if_pos h, if_pos h]
      unfold pfN
      rw [ct_n (fun q => by
        obtain ⟨_, a, b⟩ := of_decide_eq_true q
        have a2 := (g_eq (by omega) (by omega)).mp (e2.symm.trans a)
        have b2 := (g_eq (by omega) (by omega)).mp (e3.symm.trans b)
        omega)]
    · rw [if_neg h, if_neg h]
theorem pfA_n {f : CS} {t : Nat} (e5 : ¬ f 5 t = nI 2) : pfA f (t + 1) = pfA f t := by
  funext x
  unfold pfA
  by_cases h : x < 36
  · rw [if_pos h, if_pos h]
    unfold pfN
    rw [ct_n (fun q => e5 (of_decide_eq_true q).1)]
  · rw [if_neg h, if_neg h]
theorem stA_y {f : CS} {t c g x : Nat} (e2 : f 2 t = nI c) (e3 : f 3 t = nI g) (e4 : f 4 t = nI x) (hc : c < 12) (hg : g < 3) : stA f (t + 1) = upd (stA f t) (c * 3 + g) (stA f t (c * 3 + g) ||| (nI 1 <<< (nI x &&& 31))) := by
  funext y
  unfold upd
  by_cases hy : y = c * 3 + g
  · subst hy
    rw [if_pos rfl, stA_at hc hg, stA_at hc hg]
    show (if f 2 t = nI c ∧ f 3 t = nI g then stO f c g t ||| (nI 1 <<< (f 4 t &&& 31)) else stO f c g t) = _
    rw [if_pos ⟨e2, e3⟩, e4]
  · rw [if_neg hy]
    unfold stA
    by_cases h : y < 36
    · rw [if_pos h, if_pos h]
      show (if _ then _ else _) = _
      rw [if_neg (fun q => by
        obtain ⟨a, b⟩ := q
        have a2 := (g_eq (by omega) (by omega)).mp (e2.symm.trans a)
        have b2 := (g_eq (by omega) (by omega)).mp (e3.symm.trans b)
        omega)]
    · rw [if_neg h, if_neg h]
/-- what stands of each TERM -/
def hTm (f : CS) (dy : Nat) : Prop := ∀ t, t < nT f → ∃ c g x s, c < nC f ∧ g < 3 ∧ x < 20 ∧ s < 4 ∧ f 2 t = nI c ∧ f 3 t = nI g ∧ f 4 t = nI x ∧ f 5 t = nI s ∧ (s = 3 → ∃ b, b ≤ dy ∧ f 8 t = nI b) ∧ (s = 0 → pcn (f 6 t) ≤ 2 ∧ pcn (f 7 t) ≤ 2)
def hDis (f : CS) : Prop := ∀ j k, j < nT f → k < nT f → f 2 j = f 2 k → f 3 j = f 3 k → f 4 j = f 4 k → j = k
def hPr (f : CS) : Prop := ∀ j k, j < nT f → k < nT f → f 2 j = f 2 k → f 3 j = f 3 k → f 5 j = nI 2 → f 5 k = nI 2 → j = k
theorem st_no {f : CS} {dy : Nat} (hT : nT f ≤ 24) (hM : hTm f dy) (hd : hDis f) {t c g x : Nat} (ht : t < nT f) (e2 : f 2 t = nI c) (e3 : f 3 t = nI g) (e4 : f 4 t = nI x) (hx : x < 20) : ¬ (stO f c g t >>> (nI x &&& 31)) &&& nI 1 = nI 1 := by
  have key : ∀ n, n ≤ t → ¬ hs (stO f c g n) (nI x) = true := by
    intro n
    induction n with
    | zero => exact fun _ => hs_0 (by omega)
    | succ n ih =>
      intro hn
      unfold stO
      by_cases q : f 2 n = nI c ∧ f 3 n = nI g
      · rw [if_pos q, hs_or (by omega)]
        obtain ⟨c', g', x', s', _, _, hx', _, _, _, e4', _⟩ := hM n (by omega)
        rw [e4']
        rintro (z | z)
        · exact ih (by omega) z
        · have := (hs_bit (n := x') (k := x) (by omega) (by omega)).mp z
          subst this
          have := hd n t (by omega) ht (q.1.trans e2.symm) (q.2.trans e3.symm) (e4'.trans e4.symm)
          omega
      · rw [if_neg q]
        exact ih (by omega)
  intro h
  refine key t (Nat.le_refl _) (decide_eq_true ?_)
  rw [h]
  decide
theorem ct_le1 {p : Nat → Bool} : ∀ {n : Nat}, (∀ j k, j < n → k < n → p j = true → p k = true → j = k) → ct p n ≤ 1
  | 0, _ => Nat.zero_le _
  | n + 1, h => by
    by_cases e : p n = true
    · rw [ct_y e, ct_0 (fun t ht q => by have := h t n (by omega) (by omega) q e; omega)]
      exact Nat.le_refl _
    · rw [ct_n e]
      exact ct_le1 (fun j k hj hk => h j k (by omega) (by omega))
theorem pf_le1 {f : CS} (hp : hPr f) {c g n : Nat} (hn : n ≤ nT f) : pfN f c g n ≤ 1 := ct_le1 (fun j k hj hk a b => by
  have a := of_decide_eq_true a
  have b := of_decide_eq_true b
  exact hp j k (by omega) (by omega) (a.2.1.trans b.2.1.symm) (a.2.2.trans b.2.2.symm) a.1 b.1)
theorem ct_pos {p : Nat → Bool} : ∀ {n k : Nat}, k < n → p k = true → 0 < ct p n
  | 0, _, h, _ => absurd h (Nat.not_lt_zero _)
  | n + 1, k, h, e => by
    by_cases q : k = n
    · subst q; rw [ct_y e]; omega
    · have := ct_pos (n := n) (by omega) e
      show 0 < ct p n + _
      omega
theorem pr_iff {f : CS} (hT : nT f ≤ 24) (hp : hPr f) {c g : Nat} : nI 0 ≤ prI f (nI c) (nI g) ↔ pfN f c g (nT f) = 1 := by
  have h1 := pf_le1 hp (c := c) (g := g) (Nat.le_refl _)
  unfold prI prT
  rcases fst_cases (fun t => decide (f 2 t = nI c ∧ f 3 t = nI g ∧ f 5 t = nI 2)) (nT f) with ⟨a, b, _⟩ | ⟨a, b⟩
  · rw [if_pos a]
    refine ⟨fun _ => ?_, fun _ => nI_pos' (by omega)⟩
    have := of_decide_eq_true b
    have := ct_pos (p := fun k => decide (f 5 k = nI 2 ∧ f 2 k = nI c ∧ f 3 k = nI g)) a (decide_eq_true ⟨this.2.2, this.1, this.2.1⟩)
    unfold pfN at *
    omega
  · rw [a, if_neg (Nat.lt_irrefl _)]
    refine ⟨fun q => absurd q (by decide), fun q => ?_⟩
    have : pfN f c g (nT f) = 0 := ct_0 (fun t ht z => b t ht (by
      have z := of_decide_eq_true z
      exact decide_eq_true ⟨z.2.1, z.2.2, z.1⟩))
    omega
theorem pcn_mk (p : Nat → Bool) {n : Nat} (hn : n ≤ 32) : pcn (mk p n) = ct p n := by
  unfold pcn
  obtain ⟨d, hd⟩ := Nat.le.dest hn
  have e : ct (fun i => (mk p n).toBitVec.getLsbD i) 32 = ct (fun i => (mk p n).toBitVec.getLsbD i) (n + d) := by rw [hd]
  rw [e, ct_add, ct_0 (n := d) (fun t ht q => by
    have := (mk_at p (k := n + t) (by omega) hn).mp ((hs_iff (by omega)).mpr q)
    omega), Nat.add_zero]
  refine ct_cong (fun k hk => ?_)
  have h := mk_at p (k := k) (by omega) hn
  rw [hs_iff (by omega)] at h
  cases h1 : p k with
  | true => exact h.mpr ⟨hk, h1⟩
  | false =>
    cases h2 : (mk p n).toBitVec.getLsbD k with
    | false => rfl
    | true => rw [(h.mp h2).2] at h1; exact h1
theorem pcn_ofC {f : CS} (hT : nT f ≤ 24) (c : Nat) : pcn (ofC f (nI c)) = ofN f c (nT f) := pcn_mk _ (by omega)
theorem ofC_0 {f : CS} (hT : nT f ≤ 24) (c : Nat) : ofC f (nI c) = 0 ↔ ofN f c (nT f) = 0 := by
  rw [← pcn_ofC hT]
  constructor
  · intro h; rw [h]; decide
  · intro h
    apply Int32.toBitVec_inj.mp
    apply BitVec.eq_of_getLsbD_eq
    intro i hi
    have h0 : (0 : Int32).toBitVec.getLsbD i = false := by simp
    rw [h0]
    cases e : (ofC f (nI c)).toBitVec.getLsbD i with
    | false => rfl
    | true =>
      have := ct_pos (p := fun i => (ofC f (nI c)).toBitVec.getLsbD i) (n := 32) (k := i) hi e
      unfold pcn at h
      omega
theorem with_ct {f : CS} (hT : nT f ≤ 24) : ct (fun c => decide (¬ ofC f (nI c) = 0)) (nC f) = ct (fun c => decide (0 < ofN f c (nT f))) (nC f) := ct_cong (fun c _ => decide_eq_decide.mpr (by rw [ofC_0 hT]; omega))
/-- as many are REOPENED as are APPROVED, at most -/
def rbN (f : CS) (t : Nat) : Nat := if canB f t then roN f (bit t) else 0
theorem rb_nat (f : CS) (t : Nat) : rbF f t = nI (rbN f t) := by unfold rbF rbN; split <;> rfl
theorem sm_mono {g h : Nat → Nat} : ∀ {n : Nat}, (∀ k, k < n → g k ≤ h k) → sm g n ≤ sm h n
  | 0, _ => Nat.le_refl _
  | n + 1, e => by
    have h1 := sm_mono (g := g) (h := h) (n := n) (fun k hk => e k (by omega))
    have h2 := e n (by omega)
    show sm g n + g n ≤ sm h n + h n
    omega
theorem ct_three (p : Nat → Bool) : ∀ n, ct p (n * 3) = sm (fun d => ct (fun l => p (d * 3 + l)) 3) n
  | 0 => rfl
  | n + 1 => by
    rw [show (n + 1) * 3 = n * 3 + 3 by omega, ct_add, ct_three p n]
    rfl
theorem ro_le {f : CS} (hA : ∀ t, t < 18 → f 12 t = nI 1 → 0 < nL f t) (hD : nD f ≤ 6) (x : Int32) : roN f x ≤ tsN f (nI 1) := by
  unfold roN tsN
  rw [ct_three]
  refine sm_mono (fun d hd => ?_)
  split
  · exact ct_mono (fun l hl q => decide_eq_true ⟨hA (d * 3 + l) (by omega) (of_decide_eq_true q), of_decide_eq_true q⟩)
  · exact Nat.zero_le _
theorem rb_le {f : CS} (hA : ∀ t, t < 18 → f 12 t = nI 1 → 0 < nL f t) (hD : nD f ≤ 6) (t : Nat) : rbN f t ≤ tsN f (nI 1) := by
  unfold rbN
  split
  · exact ro_le hA hD _
  · exact Nat.zero_le _
