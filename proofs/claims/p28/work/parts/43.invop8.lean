/-! join. -/
theorem pr_all (f : CS) (hT : nT f ≤ 24) (c q : Int32) : (∃ u, u < nT f ∧ prI f c q = nI u ∧ isT f (prI f c q) ∧ f 2 u = c ∧ f 3 u = q ∧ f 5 u = nI 2) ∨ (¬ isT f (prI f c q) ∧ ∀ k, k < nT f → ¬ (f 2 k = c ∧ f 3 k = q ∧ f 5 k = nI 2)) := by
  have ep : prI f c q = if prT f c q < nT f then nI (prT f c q) else -1 := rfl
  rcases fst_cases (fun k => decide (f 2 k = c ∧ f 3 k = q ∧ f 5 k = nI 2)) (nT f) with ⟨a, b, _⟩ | ⟨a, b⟩
  · have a' : prT f c q < nT f := a
    have e : prI f c q = nI (prT f c q) := ep.trans (if_pos a')
    refine Or.inl ⟨prT f c q, a', e, ?_, (of_decide_eq_true b).1, (of_decide_eq_true b).2.1, (of_decide_eq_true b).2.2⟩
    rw [e]
    exact ⟨nI_pos' (by omega), (g_lt (by omega) (by omega)).mpr a'⟩
  · have a' : prT f c q = nT f := a
    have e : prI f c q = -1 := ep.trans (if_neg (by omega))
    refine Or.inr ⟨fun z => ?_, fun k hk z => b k hk (decide_eq_true z)⟩
    rw [e] at z
    exact absurd z.1 (by decide)
theorem un_P {f : CS} (hT : nT f ≤ 24) (hP : hPr f) (x y : Int32) : ∀ n, (∀ k, unF f x y n 5 k = f 5 k ∨ (f 5 k = nI 2 ∧ unF f x y n 5 k = nI 1)) ∧ ∀ l, l < n → ∀ j k, j < nT f → k < nT f → f 2 j = x → f 2 k = y → f 3 j = nI l → f 3 k = nI l → unF f x y n 5 j = nI 2 → ¬ unF f x y n 5 k = nI 2
  | 0 => ⟨fun _ => Or.inl rfl, fun l hl => absurd hl (Nat.not_lt_zero _)⟩
  | n + 1 => by
    obtain ⟨h1, h2⟩ := un_P hT hP x y n
    have gT : nT (unF f x y n) = nT f := by unfold nT; rw [unF_0 f x y 0 (by omega)]
    have g2 := unF_0 f x y 2 (by omega) n
    have g3 := unF_0 f x y 3 (by omega) n
    have low : ∀ k, unF f x y n 5 k = nI 2 → f 5 k = nI 2 := fun k hk => by
      rcases h1 k with q | ⟨q, _⟩
      · exact q.symm.trans hk
      · exact q
    show (∀ k, un1 (unF f x y n) x y (nI n) 5 k = f 5 k ∨ (f 5 k = nI 2 ∧ un1 (unF f x y n) x y (nI n) 5 k = nI 1)) ∧ ∀ l, l < n + 1 → ∀ j k, j < nT f → k < nT f → f 2 j = x → f 2 k = y → f 3 j = nI l → f 3 k = nI l → un1 (unF f x y n) x y (nI n) 5 j = nI 2 → ¬ un1 (unF f x y n) x y (nI n) 5 k = nI 2
    by_cases q : isT (unF f x y n) (prI (unF f x y n) x (nI n)) ∧ isT (unF f x y n) (prI (unF f x y n) y (nI n))
    · rcases pr_all (unF f x y n) (by rw [gT]; exact hT) x (nI n) with ⟨u, hu, eu, _, u2, u3, u5⟩ | ⟨z, _⟩
      · rcases pr_all (unF f x y n) (by rw [gT]; exact hT) y (nI n) with ⟨v, hv, ev, _, v2, v3, v5⟩ | ⟨z, _⟩
        · rw [gT] at hu hv
          rw [g2] at u2 v2
          rw [g3] at u3 v3
          obtain ⟨m, hm, em⟩ : ∃ m, (m = u ∨ m = v) ∧ un1 (unF f x y n) x y (nI n) = gset (unF f x y n) 5 m (nI 1) := by
            unfold un1
            rw [if_pos q, eu, ev]
            by_cases z : nI u < nI v
            · rw [if_pos z, nI_clamp (by omega)]; exact ⟨v, Or.inr rfl, rfl⟩
            · rw [if_neg z, nI_clamp (by omega)]; exact ⟨u, Or.inl rfl, rfl⟩
          rw [em]
          have m5 : f 5 m = nI 2 := by
            rcases hm with rfl | rfl
            · exact low _ u5
            · exact low _ v5
          have step : ∀ k, gset (unF f x y n) 5 m (nI 1) 5 k = nI 2 → ¬ k = m ∧ unF f x y n 5 k = nI 2 := fun k hk => by
            by_cases e : k = m
            · rw [e, gset_eq] at hk
              exact absurd hk (by decide)
            · rw [gset_ne (by omega)] at hk
              exact ⟨e, hk⟩
          refine ⟨fun k => ?_, fun l hl j k hj hk a b c d e1 e2 => ?_⟩
          · by_cases e : k = m
            · rw [e, gset_eq]; exact Or.inr ⟨m5, rfl⟩
            · rw [gset_ne (by omega)]; exact h1 k
          · obtain ⟨n1, j5⟩ := step j e1
            obtain ⟨n2, k5⟩ := step k e2
            by_cases e : l = n
            · subst e
              have ju : j = u := hP j u hj hu (a.trans u2.symm) (c.trans u3.symm) (low j j5) (low u u5)
              have kv : k = v := hP k v hk hv (b.trans v2.symm) (d.trans v3.symm) (low k k5) (low v v5)
              rcases hm with rfl | rfl
              · exact n1 ju
              · exact n2 kv
            · exact h2 l (by omega) j k hj hk a b c d j5 k5
        · exact absurd q.2 z
      · exact absurd q.1 z
    · have em : un1 (unF f x y n) x y (nI n) = unF f x y n := if_neg q
      rw [em]
      refine ⟨h1, fun l hl j k hj hk a b c d e1 e2 => ?_⟩
      by_cases e : l = n
      · subst e
        rcases pr_all (unF f x y l) (by rw [gT]; exact hT) x (nI l) with ⟨_, _, _, z1, _⟩ | ⟨_, z⟩
        · rcases pr_all (unF f x y l) (by rw [gT]; exact hT) y (nI l) with ⟨_, _, _, z2, _⟩ | ⟨_, z⟩
          · exact q ⟨z1, z2⟩
          · exact z k (by rw [gT]; exact hk) ⟨by rw [g2]; exact b, by rw [g3]; exact d, e2⟩
        · exact z j (by rw [gT]; exact hj) ⟨by rw [g2]; exact a, by rw [g3]; exact c, e1⟩
      · exact h2 l (by omega) j k hj hk a b c d e1 e2
theorem canJ_no {f : CS} {a b : Int32} (h : canJ f a b) : ∀ j k, j < nT f → k < nT f → f 2 j = a → f 2 k = b → f 3 j = f 3 k → ¬ f 4 j = f 4 k := fun j k hj hk e1 e2 e3 e4 => by
  have : aT (fun t => decide (f 2 t = a) && hasT f b (f 3 t) (f 4 t)) (nT f) = true := aT_iff.mpr ⟨j, hj, by
    rw [Bool.and_eq_true]
    exact ⟨decide_eq_true e1, has_iff.mpr ⟨k, hk, e2, e3.symm, e4.symm⟩⟩⟩
  rw [h] at this
  cases this
theorem un_J {f : CS} {dy a b : Nat} (hJ : J f dy) (ha : a < nC f) (hb : b < nC f) (hab : ¬ a = b) (hc : ∀ j k, j < nT f → k < nT f → f 2 j = nI a → f 2 k = nI b → f 3 j = f 3 k → ¬ f 4 j = f 4 k) : J (raA (unA f (nI a) (nI b))) dy := by
  obtain ⟨⟨hI, hN, hT, hDi, hP, hK, hX⟩, _⟩ := hJ
  have hT24 := hI.1.2
  have hC12 := hI.2.1.2
  obtain ⟨p1, p2⟩ := un_P hT24 hP (nI a) (nI b) 3
  obtain ⟨g, hg⟩ : ∃ g, g = unF f (nI a) (nI b) 3 := ⟨_, rfl⟩
  have gr : ∀ r, ¬ r = 5 → g r = f r := fun r hr => by rw [hg]; exact unF_0 f _ _ r hr 3
  rw [← hg] at p1 p2
  have gT : nT g = nT f := by unfold nT; rw [gr 0 (by omega)]
  have eA : unA f (nI a) (nI b) = mvF g (ofC g (nI b)) (nI a) (nT g) := by unfold unA; rw [← hg]
  have ur : ∀ r, ¬ r = 2 → unA f (nI a) (nI b) r = g r := fun r hr => by rw [eA]; exact mvF_row hr
  have u2 : ∀ k, k < nT f → unA f (nI a) (nI b) 2 k = if f 2 k = nI b then nI a else f 2 k := fun k hk => by
    rw [eA]
    unfold mvF
    have e := ofC_at (f := g) (by rw [gT]; exact hT24) (c := nI b) (k := k) (by rw [gT]; exact hk)
    rw [gr 2 (by omega)] at e
    by_cases q : f 2 k = nI b
    · rw [if_pos ⟨rfl, by rw [gT]; exact hk, e.mpr q⟩, if_pos q]
    · rw [if_neg (fun z => q (e.mp z.2.2)), if_neg q, gr 2 (by omega)]
  have uT : nT (unA f (nI a) (nI b)) = nT f := by unfold nT; rw [ur 0 (by omega), gr 0 (by omega)]
  have uC : nC (unA f (nI a) (nI b)) = nC f := by unfold nC; rw [ur 0 (by omega), gr 0 (by omega)]
  have uD : nD (unA f (nI a) (nI b)) = nD f := by unfold nD; rw [ur 0 (by omega), gr 0 (by omega)]
  have uL : ∀ t, nL (unA f (nI a) (nI b)) t = nL f t := fun t => by unfold nL; rw [ur 11 (by omega), gr 11 (by omega)]
  have u0 : unA f (nI a) (nI b) 0 = f 0 := by rw [ur 0 (by omega), gr 0 (by omega)]
  have uo : ∀ r, ¬ r = 2 → ¬ r = 5 → unA f (nI a) (nI b) r = f r := fun r h1 h2 => by rw [ur r h1, gr r h2]
  have low : ∀ k, g 5 k = nI 2 → f 5 k = nI 2 := fun k hk => by
    rcases p1 k with q | ⟨q, _⟩
    · exact q.symm.trans hk
    · exact q
  have zero : ∀ k, g 5 k = nI 0 ↔ f 5 k = nI 0 := fun k => by
    rcases p1 k with q | ⟨q, q2⟩
    · rw [q]
    · rw [q, q2]; decide
  have split2 : ∀ j k, j < nT f → k < nT f → unA f (nI a) (nI b) 2 j = unA f (nI a) (nI b) 2 k → f 2 j = f 2 k ∨ (f 2 j = nI a ∧ f 2 k = nI b) ∨ (f 2 j = nI b ∧ f 2 k = nI a) := fun j k hj hk e => by
    rw [u2 j hj, u2 k hk] at e
    by_cases qj : f 2 j = nI b
    · by_cases qk : f 2 k = nI b
      · exact Or.inl (qj.trans qk.symm)
      · rw [if_pos qj, if_neg qk] at e
        exact Or.inr (Or.inr ⟨qj, e.symm⟩)
    · by_cases qk : f 2 k = nI b
      · rw [if_neg qj, if_pos qk] at e
        exact Or.inr (Or.inl ⟨e, qk⟩)
      · rw [if_neg qj, if_neg qk] at e
        exact Or.inl e
  refine ra_J ⟨unA_I hI, ?_, ⟨?_, ?_⟩, ?_, ?_, ?_, ?_⟩
  · unfold jN
    rw [uT, uC, uD, u0]
    exact hN
  · intro t ht
    rw [uT] at ht
    obtain ⟨c, i, x, s, h1, h2, h3, h4, h5, h6, h7, h8, h9, h10⟩ := hT.1 t ht
    rw [uC, u2 t ht]
    rw [uo 3 (by omega) (by omega), uo 4 (by omega) (by omega), uo 6 (by omega) (by omega), uo 7 (by omega) (by omega), uo 8 (by omega) (by omega), uo 9 (by omega) (by omega), ur 5 (by omega)]
    obtain ⟨c', hc', ec'⟩ : ∃ c', c' < nC f ∧ (if f 2 t = nI b then nI a else f 2 t) = nI c' := by
      by_cases q : f 2 t = nI b
      · exact ⟨a, ha, if_pos q⟩
      · exact ⟨c, h1, (if_neg q).trans h5⟩
    rcases p1 t with q | ⟨_, q⟩
    · exact ⟨c', i, x, s, hc', h2, h3, h4, ec', h6, h7, q.trans h8, h9, h10⟩
    · exact ⟨c', i, x, 1, hc', h2, h3, by omega, ec', h6, h7, q, fun z => by omega, fun z => by omega⟩
  · rw [uT, uo 6 (by omega) (by omega), uo 7 (by omega) (by omega)]
    exact hT.2
  · intro j k hj hk h1 h2 h3
    rw [uT] at hj hk
    rw [uo 3 (by omega) (by omega)] at h2
    rw [uo 4 (by omega) (by omega)] at h3
    rcases split2 j k hj hk h1 with q | ⟨q1, q2⟩ | ⟨q1, q2⟩
    · exact hDi j k hj hk q h2 h3
    · exact absurd h3 (hc j k hj hk q1 q2 h2)
    · exact absurd h3.symm (hc k j hk hj q2 q1 h2.symm)
  · intro j k hj hk h1 h2 h3 h4
    rw [uT] at hj hk
    rw [uo 3 (by omega) (by omega)] at h2
    rw [ur 5 (by omega)] at h3 h4
    obtain ⟨_, i, _, _, _, hi, _, _, _, ei, _⟩ := hT.1 j hj
    rcases split2 j k hj hk h1 with q | ⟨q1, q2⟩ | ⟨q1, q2⟩
    · exact hP j k hj hk q h2 (low j h3) (low k h4)
    · exact absurd h4 (p2 i (by omega) j k hj hk q1 q2 ei (h2.symm.trans ei) h3)
    · exact absurd h3 (p2 i (by omega) k j hk hj q2 q1 (h2.symm.trans ei) ei h4)
  · intro i hi x hx k hk
    rw [uT, uo (60 + i) (by omega) (by omega), uo 3 (by omega) (by omega), uo 4 (by omega) (by omega), ur 5 (by omega), zero k]
    exact hK i hi x hx k hk
  · intro t ht
    rw [uL, uo (20 + t) (by omega) (by omega), uo 12 (by omega) (by omega)]
    exact hX t ht
