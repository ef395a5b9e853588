/-! What ban, prefer and pass answer. -/
theorem ct_pos_ex {p : Nat → Bool} : ∀ {n : Nat}, 0 < ct p n → ∃ k, k < n ∧ p k = true
  | 0, h => absurd h (Nat.lt_irrefl _)
  | n + 1, h => by
    by_cases e : p n = true
    · exact ⟨n, by omega, e⟩
    · rw [ct_n e] at h
      obtain ⟨k, h1, h2⟩ := ct_pos_ex h
      exact ⟨k, by omega, h2⟩
theorem ua_pos {f : CS} (hT : nT f ≤ 24) (hU : hUse f) {t : Nat} (ht : t < 18) {x : Int32} : 0 < uA f t x ↔ ∃ p u, p < nL f t ∧ u < nT f ∧ f (40 + t) p = nI u ∧ hs x (nI u) = true := by
  constructor
  · intro h
    obtain ⟨p, hp, q⟩ := ct_pos_ex h
    have q := of_decide_eq_true q
    rcases hU t ht p hp with e | ⟨u, hu, e, _, _⟩
    · exact absurd e q.1
    · exact ⟨p, u, hp, hu, e, by rw [← e]; exact q.2⟩
  · rintro ⟨p, u, hp, hu, e, q⟩
    exact ct_pos hp (decide_eq_true ⟨by rw [e]; exact nI_ne1 (by omega), by rw [e]; exact q⟩)
theorem bn_ans {f : CS} {dy t q : Nat} (hJ : J f dy) (ht : t < nT f) (hb : canB f t) (hq : q ≤ 4) : roN (bn1 f t (nI q)) (due (bn1 f t (nI q)) (f 0 3)) = if q = 0 then roN f (bit t) else 0 := by
  have hT24 := hJ.1.1.1.2
  obtain ⟨hD2, _, _, hdy, hd9⟩ := hJ.1.2.1
  have hU := hJ.use
  have hn3 : ¬ f 5 t = nI 3 := fun z => by rcases hb with e | e <;> rw [e] at z <;> exact absurd z (by decide)
  obtain ⟨g, hg⟩ : ∃ g, g = bn1 f t (nI q) := ⟨_, rfl⟩
  have gr : ∀ a, ¬ (a = 5 ∨ a = 8 ∨ a = 9) → g a = f a := fun a ha => by rw [hg]; exact foF_row (by omega) (by omega) (by omega)
  have gT : nT g = nT f := by unfold nT; rw [gr 0 (by omega)]
  have g5 : ∀ k, g 5 k = if k = t then nI 3 else f 5 k := fun k => by
    rw [hg]
    unfold bn1 foF
    rw [gset_row0 (by omega), gset_row0 (by omega)]
    by_cases e : k = t
    · rw [e, gset_eq, if_pos rfl]
    · rw [gset_ne (by omega), if_neg e]
  have g8 : ∀ k, g 8 k = if k = t then nI dy else f 8 k := fun k => by
    rw [hg]
    unfold bn1 foF
    rw [gset_row0 (by omega)]
    by_cases e : k = t
    · rw [e, gset_eq, if_pos rfl, hdy]
    · rw [gset_ne (by omega), gset_row0 (by omega), if_neg e]
  have g9 : ∀ k, g 9 k = if k = t then nI q else f 9 k := fun k => by
    rw [hg]
    unfold bn1 foF
    by_cases e : k = t
    · rw [e, gset_eq, if_pos rfl]
    · rw [gset_ne (by omega), gset_row0 (by omega), gset_row0 (by omega), if_neg e]
  rw [← hg]
  have hdu : ∀ u, u < nT f → (hs (due g (f 0 3)) (nI u) = true ↔ (u = t ∧ q = 0) ∨ (¬ u = t ∧ hs (due f (f 0 3)) (nI u) = true)) := fun u hu => by
    rw [due_at (by rw [gT]; exact hT24) (by rw [gT]; exact hu), due_at hT24 hu, g5, g8, g9]
    by_cases e : u = t
    · rw [if_pos e, if_pos e, if_pos e, hdy, show nI dy + nI q = nI (dy + q) from (Int32.ofNat_add _ _).symm, g_le (by omega) (by omega)]
      constructor
      · rintro ⟨_, h⟩; exact Or.inl ⟨e, by omega⟩
      · rintro (⟨_, h⟩ | ⟨h, _⟩)
        · exact ⟨rfl, by omega⟩
        · exact absurd e h
    · rw [if_neg e, if_neg e, if_neg e]
      exact ⟨fun h => Or.inr ⟨e, h⟩, fun h => h.elim (fun z => absurd z.1 e) (fun z => z.2)⟩
  have hL : ∀ k, nL g k = nL f k := fun k => by unfold nL; rw [gr 11 (by omega)]
  have gU : hUse g := fun k hk p hp => by
    rw [hL] at hp
    rw [gr (40 + k) (by omega), gT, gr 3 (by omega)]
    rcases hU k hk p hp with e | ⟨u, hu, e, e3, e5⟩
    · exact Or.inl e
    · refine Or.inr ⟨u, hu, e, e3, ?_⟩
      rw [g5]
      by_cases z : u = t
      · rw [if_pos z]; decide
      · rw [if_neg z]; exact e5
  have hA : ∀ d, d < 2 → (hasA g d (due g (f 0 3)) = true ↔ q = 0 ∧ hasA f d (bit t) = true) := fun d hd => by
    constructor
    · intro z
      obtain ⟨l, hl, e1, e2⟩ := hasA_iff.mp z
      rw [gr 12 (by omega)] at e1
      obtain ⟨p, u, hp, hu, e, hs1⟩ := (ua_pos (by rw [gT]; exact hT24) gU (by omega)).mp e2
      rw [hL] at hp
      rw [gT] at hu
      rw [gr (40 + (d * 3 + l)) (by omega)] at e
      rcases (hdu u hu).mp hs1 with ⟨y1, y2⟩ | ⟨_, y⟩
      · exact ⟨y2, hasA_iff.mpr ⟨l, hl, e1, (ua_pos hT24 hU (by omega)).mpr ⟨p, u, hp, hu, e, by rw [hs_bit (by omega) (by omega)]; exact y1⟩⟩⟩
      · exact absurd (hasA_iff.mpr ⟨l, hl, e1, (ua_pos hT24 hU (by omega)).mpr ⟨p, u, hp, hu, e, y⟩⟩) (hJ.2.2 d hd)
    · rintro ⟨hq0, z⟩
      obtain ⟨l, hl, e1, e2⟩ := hasA_iff.mp z
      obtain ⟨p, u, hp, hu, e, hs1⟩ := (ua_pos hT24 hU (by omega)).mp e2
      rw [hs_bit (by omega) (by omega)] at hs1
      exact hasA_iff.mpr ⟨l, hl, by rw [gr 12 (by omega)]; exact e1, (ua_pos (by rw [gT]; exact hT24) gU (by omega)).mpr ⟨p, u, by rw [hL]; exact hp, by rw [gT]; exact hu, by rw [gr (40 + (d * 3 + l)) (by omega)]; exact e, (hdu u hu).mpr (Or.inl ⟨hs1, hq0⟩)⟩⟩
  have hap : ∀ d, apN g d = apN f d := fun d => by unfold apN; rw [gr 12 (by omega)]
  have gD : nD g = nD f := by unfold nD; rw [gr 0 (by omega)]
  unfold roN
  rw [gD]
  by_cases hq0 : q = 0
  · rw [if_pos hq0]
    refine sm_cong (fun d hd => ?_)
    rw [hap]
    by_cases z : hasA f d (bit t) = true
    · rw [if_pos z, if_pos ((hA d (by omega)).mpr ⟨hq0, z⟩)]
    · rw [if_neg z, if_neg (fun y => z ((hA d (by omega)).mp y).2)]
  · rw [if_neg hq0]
    exact sm_zero (fun d hd => if_neg (fun y => hq0 ((hA d (by omega)).mp y).1))
/-- prefer: that one is the preferred one then -/
theorem pf_ans {f : CS} {dy t : Nat} (hJ : J f dy) (ht : t < nT f) (e5 : f 5 t = nI 1) : prI (raF f t) (raF f t 2 t) (raF f t 3 t) = nI t ∧ raF f t 5 t = nI 2 ∧ ¬ prI f (f 2 t) (f 3 t) = nI t := by
  have hT24 := hJ.1.1.1.2
  have hJ2 := raF_J hJ ht e5
  have h5 : raF f t 5 t = nI 2 := gset_eq _ _ _ _
  have hT2 : nT (raF f t) = nT f := by
    rcases ra_cases hJ ht e5 with ⟨_, e, _⟩ | ⟨u, _, _, _, _, _, _, e⟩
    · unfold nT; rw [e, gset_row0 (by omega)]
    · unfold nT; rw [e, gset_row0 (by omega), gset_row0 (by omega)]
  refine ⟨?_, h5, ?_⟩
  · rcases pr_all (raF f t) (by rw [hT2]; exact hT24) (raF f t 2 t) (raF f t 3 t) with ⟨u, hu, eu, _, u2, u3, u5⟩ | ⟨_, z⟩
    · rw [eu, hJ2.1.2.2.2.2.1 u t hu (by rw [hT2]; exact ht) u2 u3 u5 h5]
    · exact absurd ⟨rfl, rfl, h5⟩ (z t (by rw [hT2]; exact ht))
  · intro z
    rcases ra_cases hJ ht e5 with ⟨e, _, _⟩ | ⟨u, hu, hut, _, _, _, e, _⟩
    · rw [e] at z
      exact nI_ne1 (by omega) z.symm
    · exact hut ((g_eq (by omega) (by omega)).mp (e.symm.trans z))
