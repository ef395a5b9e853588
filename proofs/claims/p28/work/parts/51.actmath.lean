/-! What each call of act leaves, told of a new world. -/
theorem ra_tsx {f g : CS} {dy : Nat} (hJ : J f dy) (h12 : g 12 = f 12) (h11 : g 11 = f 11) (hDg : nD g = nD f) : tsN (raA g) (nI 1) ≤ tsN f (nI 1) ∧ tsN f (nI 2) ≤ tsN (raA g) (nI 2) := by
  have hD2 : nD g = 2 := hDg.trans hJ.1.2.1.1
  unfold raA
  rw [hD2]
  have hag := rlF_ag (f := g) (n := 2 * 3) (by omega)
  have k12 : rlF g (2 * 3) 12 = f 12 := (hag 12 (by omega)).trans h12
  have k11 : rlF g (2 * 3) 11 = f 11 := (hag 11 (by omega)).trans h11
  have kD : nD (rlF g (2 * 3)) = nD f := hag.D.trans hDg
  have e1 := rp_ts1 (f := rlF g (2 * 3)) (x := due (rlF g (2 * 3)) (g 0 3)) (kD.trans hJ.1.2.1.1) (fun t ht z => by
    unfold nL
    rw [k11]
    rw [k12] at z
    exact hJ.ap t ht z)
  have e2 := rp_ts2 (f := rlF g (2 * 3)) (x := due (rlF g (2 * 3)) (g 0 3))
  rw [ts_row k12 k11 kD] at e1 e2
  exact ⟨by omega, e2⟩
theorem J.hI {f : CS} {dy : Nat} (h : J f dy) : gI f := h.1.1
theorem J.T6 {f : CS} {dy : Nat} (h : J f dy) : 6 ≤ nT f := h.1.2.1.2.2.1
theorem J.C3 {f : CS} {dy : Nat} (h : J f dy) : 3 ≤ nC f := h.1.2.1.2.1
theorem J.D2 {f : CS} {dy : Nat} (h : J f dy) : nD f = 2 := h.1.2.1.1
theorem J.day {f : CS} {dy : Nat} (h : J f dy) : f 0 3 = nI dy := h.1.2.1.2.2.2.1
theorem J.d199 {f : CS} {dy : Nat} (h : J f dy) : dy ≤ 199 := h.1.2.1.2.2.2.2
theorem am_term {f : CS} {dy c g x : Nat} (hJ : J f dy) (hc : c < nC f) (hg : g < 3) (hx : x < 20) (h24 : nT f < 24) (hn : ¬ hasT f (nI c) (nI g) (nI x) = true) : ∃ f1, f1 = adT f (nI c) (nI g) (nI x) ∧ J f1 dy ∧ nT f1 = nT f + 1 ∧ f1 5 (nT f) = nI 0 ∧ tsN f (nI 2) ≤ tsN f1 (nI 2) :=
  ⟨_, rfl, ad_J hJ hc hg hx h24 hn, ad_T h24, ad_n5 f _ _ _, Nat.le_of_eq (ts_row (ad_row (by omega)) (ad_row (by omega)) (ad_D f _ _ _) _).symm⟩
theorem vo_rows {f : CS} {dy t : Nat} {v : Int32} (hJ : J f dy) (ht : t < nT f) (h0 : f 5 t = nI 0) : nT (voF f t v True) = nT f ∧ tsN (voF f t v True) (nI 1) ≤ tsN f (nI 1) ∧ tsN f (nI 2) ≤ tsN (voF f t v True) (nI 2) := by
  obtain ⟨c, i, x, s, h1, h2, h3, h4, h5, h6, h7, h8, h9, h10⟩ := hJ.1.2.2.1.1 t ht
  have hs : s = 0 := (g_eq (by omega) (by omega)).mp (h8.symm.trans h0)
  obtain ⟨v6, v7⟩ := h10 hs
  have hI := hJ.hI
  by_cases q : 3 ≤ pcn (f 6 t ||| (nI 1 <<< (v &&& 31)))
  · have e := avF_ya (f := f) (t := t) (v := v) trivial q
    rw [h6, h7, mk_at3 h2 h3] at e
    have er : ∀ a, ¬ (a = 5 ∨ a = 6 ∨ a = 60 + i) → avF f t v True a = f a := fun a ha => by
      funext b
      rw [e, gset_row0 (by omega), gset_row0 (by omega), gset_row0 (by omega)]
    have e5 : avF f t v True 5 t = nI 1 := by
      rw [e, gset_row0 (by omega), gset_eq]
    unfold voF
    rw [if_pos e5]
    refine ⟨?_, ra_tsx hJ (er 12 (by omega)) (er 11 (by omega)) (by unfold nD; rw [er 0 (by omega)])⟩
    unfold nT
    rw [ra_row (avI hI) (by omega), er 0 (by omega)]
  · have e := avF_yn (f := f) (t := t) (v := v) trivial q (by omega)
    have e5 : ¬ avF f t v True 5 t = nI 1 := by
      rw [e, gset_row0 (by omega), h0]
      decide
    have er : ∀ a, ¬ a = 6 → avF f t v True a = f a := fun a ha => by
      funext b
      rw [e, gset_row0 ha]
    unfold voF
    rw [if_neg e5]
    have et : ∀ x, tsN (avF f t v True) x = tsN f x := ts_row (er 12 (by omega)) (er 11 (by omega)) (by unfold nD; rw [er 0 (by omega)])
    refine ⟨by unfold nT; rw [er 0 (by omega)], Nat.le_of_eq (et _), Nat.le_of_eq (et _).symm⟩
theorem am_vote {f : CS} {dy t v : Nat} (hJ : J f dy) (ht : t < nT f) (h0 : f 5 t = nI 0) : ∃ f1, f1 = voF f t (nI v) True ∧ J f1 dy ∧ nT f1 = nT f ∧ tsN f1 (nI 1) ≤ tsN f (nI 1) ∧ tsN f (nI 2) ≤ tsN f1 (nI 2) ∧ (f1 5 t = nI 1 ∨ (f1 5 t = nI 0 ∧ f1 6 t = f 6 t ||| bit v ∧ ¬ 3 ≤ pcn (f 6 t ||| bit v))) := by
  obtain ⟨e1, e2, e3⟩ := vo_rows (v := nI v) hJ ht h0
  refine ⟨_, rfl, vo_J hJ ht h0, e1, e2, e3, ?_⟩
  obtain ⟨c, i, x, s, _, _, _, h4, _, _, _, h8, _, h10⟩ := hJ.1.2.2.1.1 t ht
  have hs : s = 0 := (g_eq (by omega) (by omega)).mp (h8.symm.trans h0)
  rcases vo_st (v := nI v) hJ.hI h0 (h10 hs).2 with ⟨_, q⟩ | ⟨q1, q2, q3, _⟩
  · exact Or.inl q
  · exact Or.inr ⟨q2, q3, q1⟩
theorem three_votes (a : Int32) : 3 ≤ pcn (((a ||| bit 0) ||| bit 1) ||| bit 2) := by
  refine pcn_3 ?_ ?_ ?_
  · rw [hs_or (by omega), hs_or (by omega), hs_or (by omega), hs_bit (by omega) (by omega)]
    exact Or.inl (Or.inl (Or.inr rfl))
  · rw [hs_or (by omega), hs_or (by omega), hs_bit (n := 1) (by omega) (by omega)]
    exact Or.inl (Or.inr rfl)
  · rw [hs_or (by omega), hs_bit (n := 2) (by omega) (by omega)]
    exact Or.inr rfl
theorem raF_row {f : CS} {t a : Nat} (h : ¬ a = 5) : raF f t a = f a := by
  funext b
  unfold raF
  rw [gset_row0 h]
  split
  · rw [gset_row0 h]
  · rfl
theorem am_prefer {f : CS} {dy t : Nat} (hJ : J f dy) (ht : t < nT f) (e5 : f 5 t = nI 1) : ∃ f1 c g, f1 = raF f t ∧ J f1 dy ∧ nT f1 = nT f ∧ f1 5 t = nI 2 ∧ f1 2 t = nI c ∧ c < nC f1 ∧ f1 3 t = nI g ∧ g < 3 ∧ prI f1 (nI c) (nI g) = nI t ∧ ¬ prI f (f 2 t) (f 3 t) = nI t ∧ tsN f (nI 2) ≤ tsN f1 (nI 2) := by
  obtain ⟨h1, h2, h3⟩ := pf_ans hJ ht e5
  have hJ1 := raF_J hJ ht e5
  have hT1 : nT (raF f t) = nT f := by unfold nT; rw [raF_row (by omega)]
  obtain ⟨c, g, x, s, k1, k2, _, _, k5, k6, _⟩ := hJ1.1.2.2.1.1 t (by rw [hT1]; exact ht)
  rw [k5, k6] at h1
  exact ⟨_, c, g, rfl, hJ1, hT1, h2, k5, k1, k6, k2, h1, h3, Nat.le_of_eq (ts_row (raF_row (by omega)) (raF_row (by omega)) (by unfold nD; rw [raF_row (by omega)]) _).symm⟩
theorem am_ban {f : CS} {dy t q : Nat} (hJ : J f dy) (ht : t < nT f) (hb : canB f t) (hq : q < 5) : ∃ f1 td, f1 = bnF f t (nI q) ∧ roN (bn1 f t (nI q)) (due (bn1 f t (nI q)) (f 0 3)) = td ∧ J f1 dy ∧ nT f1 = nT f ∧ (q = 0 → nI td = rbF f t) ∧ (¬ q = 0 → td = 0) ∧ tsN f1 (nI 1) + td = tsN f (nI 1) ∧ f1 5 t = nI 3 ∧ f1 8 t = nI dy ∧ tsN f (nI 2) ≤ tsN f1 (nI 2) := by
  have e := bn_ans hJ ht hb (q := q) (by omega)
  have h00 : ¬ f 5 t = nI 0 := fun z => by rcases hb with y | y <;> rw [y] at z <;> exact absurd z (by decide)
  have br : ∀ a, ¬ (a = 5 ∨ a = 8 ∨ a = 9) → bn1 f t (nI q) a = f a := fun a ha => foF_row (by omega) (by omega) (by omega)
  have bD : nD (bn1 f t (nI q)) = 2 := by unfold nD; rw [br 0 (by omega)]; exact hJ.D2
  have hbn : bnF f t (nI q) = rpF (bn1 f t (nI q)) (due (bn1 f t (nI q)) (f 0 3)) 2 := by unfold bnF; rw [bD]
  have e1 := rp_ts1 (f := bn1 f t (nI q)) (x := due (bn1 f t (nI q)) (f 0 3)) bD (fun k hk z => by
    unfold nL
    rw [br 11 (by omega)]
    rw [br 12 (by omega)] at z
    exact hJ.ap k hk z)
  have e2 := rp_ts2 (f := bn1 f t (nI q)) (x := due (bn1 f t (nI q)) (f 0 3))
  have et : ∀ x, tsN (bn1 f t (nI q)) x = tsN f x := ts_row (br 12 (by omega)) (br 11 (by omega)) (by rw [bD, hJ.D2])
  rw [et] at e1 e2
  rw [← hbn] at e1 e2
  have hr : ∀ a, ¬ a = 12 → bnF f t (nI q) a = bn1 f t (nI q) a := fun a ha => by rw [hbn]; exact rpF_row ha
  refine ⟨_, _, rfl, rfl, ?_, ?_, fun h => ?_, fun h => ?_, e1, ?_, ?_, e2⟩
  · rw [hbn]; exact bn_J hJ ht h00 (by omega)
  · unfold nT; rw [hr 0 (by omega), br 0 (by omega)]
  · rw [e, if_pos h]; unfold rbF; rw [if_pos hb]
  · rw [e, if_neg h]
  · rw [hr 5 (by omega)]; unfold bn1 foF; rw [gset_row0 (by omega), gset_row0 (by omega), gset_eq]
  · rw [hr 8 (by omega)]; unfold bn1 foF; rw [gset_row0 (by omega), gset_eq]; exact hJ.day
theorem am_allow {f : CS} {dy t : Nat} (hJ : J f dy) (ht : t < nT f) (e5 : f 5 t = nI 3) : ∃ f1 r, f1 = gset f 5 t (nI 1) ∧ f 0 3 - f 8 t = nI r ∧ r ≤ 199 ∧ J f1 dy ∧ nT f1 = nT f ∧ f1 5 t = nI 1 ∧ tsN f (nI 2) ≤ tsN f1 (nI 2) := by
  have h00 : ¬ f 5 t = nI 0 := fun z => by rw [e5] at z; exact absurd z (by decide)
  obtain ⟨c, g, x, s, _, _, _, h4, _, _, _, h8, h9, _⟩ := hJ.1.2.2.1.1 t ht
  have hs : s = 3 := (g_eq (by omega) (by omega)).mp (h8.symm.trans e5)
  obtain ⟨b, q, hb, _, eb, _⟩ := h9 hs
  refine ⟨_, dy - b, rfl, by rw [hJ.day, eb]; exact g_sub hb, by have := hJ.d199; omega, al_J hJ ht h00, ?_, gset_eq _ _ _ _, ?_⟩
  · unfold nT; rw [gset_row0 (by omega)]
  · exact Nat.le_of_eq (ts_row (by funext b; exact gset_row0 (by omega)) (by funext b; exact gset_row0 (by omega)) (by unfold nD; rw [gset_row0 (by omega)]) _).symm
theorem ch_le {f : CS} (hI : gI f) (a b : Int32) : chN f a b ≤ 216 := by
  unfold chN
  have hD6 := hI.2.2.1.2
  have : ∀ n, n ≤ 18 → sm (fun t => ct (chP f a b t) (nL f t)) n ≤ 12 * n := by
    intro n
    induction n with
    | zero => intro _; exact Nat.le_refl _
    | succ n ih =>
      intro hn
      have h1 := ih (by omega)
      have h2 := ct_le (chP f a b n) (nL f n)
      have h3 := (hI.2.2.2 n (by omega)).2
      show sm _ n + ct (chP f a b n) (nL f n) ≤ _
      omega
  have := this (nD f * 3) (by omega)
  omega
theorem am_cy {f : CS} (hI : gI f) {a b : Nat} (h : canJ f (nI a) (nI b)) : ¬ cyF f a b < 0 := by
  unfold cyF
  rw [if_pos h]
  have := ch_le hI (nI (if a < b then b else a)) (nI (if b < a then b else a))
  exact Int32.not_lt.mpr (nI_pos' (by omega))
theorem am_join {f : CS} {dy a b : Nat} (hJ : J f dy) (ha : a < nC f) (hb : b < nC f) (hab : ¬ a = b) (hc : canJ f (nI a) (nI b)) : ∃ f1 r, f1 = joF f a b ∧ pcn (ofC (joF f a b) (nI (if b < a then b else a))) = r ∧ r ≤ 32 ∧ J f1 dy ∧ tsN f (nI 2) ≤ tsN f1 (nI 2) := by
  have h1 := canJ_no hc
  have hI := hJ.hI
  have ur : ∀ x y : Int32, ∀ r, ¬ r = 2 → ¬ r = 5 → unA f x y r = f r := fun x y r h2 h5 => by
    unfold unA
    rw [mvF_row h2]
    exact unF_0 f _ _ r h5 3
  have ut : ∀ x y : Int32, tsN f (nI 2) ≤ tsN (raA (unA f x y)) (nI 2) := fun x y => (ra_tsx hJ (ur x y 12 (by omega) (by omega)) (ur x y 11 (by omega) (by omega)) (by unfold nD; rw [ur x y 0 (by omega) (by omega)])).2
  refine ⟨_, _, rfl, rfl, pcn_le _, ?_, ut _ _⟩
  unfold joF
  by_cases h : b < a
  · rw [if_pos h, if_neg (by omega)]
    exact un_J hJ hb ha (by omega) (fun j k hj hk e1 e2 e3 e4 => h1 k j hk hj e2 e1 e3.symm e4.symm)
  · rw [if_neg h, if_pos (by omega)]
    exact un_J hJ ha hb hab h1
theorem sp1_2 {f : CS} {s : Int32} {x k : Nat} (hk : k < nT f) : sp1 f s x 2 k = if hs s (nI k) = true then nI (nC f) else f 2 k := by
  have a0 : adC f (nI x) 0 1 = f 0 1 := by
    unfold adC
    rw [gset_ne (by omega), gset_row0 (by omega)]
  have ar : adC f (nI x) 2 = f 2 := by
    funext b
    unfold adC
    rw [gset_row0 (by omega), gset_row0 (by omega)]
  have aT : nT (adC f (nI x)) = nT f := by unfold nT; rw [a0]
  unfold sp1 mvF
  rw [aT]
  by_cases q : hs s (nI k) = true
  · rw [if_pos ⟨rfl, hk, q⟩, if_pos q]
  · rw [if_neg (fun z => q z.2.2), if_neg q, ar]
theorem am_split {f : CS} {dy t x c : Nat} (hJ : J f dy) (ht : t < nT f) (hC : nC f < 12) (hx : x < 4) (hc : c < nC f) (e2 : f 2 t = nI c) : ∃ f1, f1 = spF f (bit t) x ∧ J f1 dy ∧ nT f1 = nT f ∧ nC f1 = nC f + 1 ∧ f1 2 t = nI (nC f) ∧ nI (pcn (ofC f1 (nI (nC f)))) = nI 1 ∧ tsN f (nI 2) ≤ tsN f1 (nI 2) := by
  have hI := hJ.hI
  have hT24 := hI.1.2
  have hIs : gI (sp1 f (bit t) x) := mvI (adC_I hI hC)
  have s0 : sp1 f (bit t) x 0 = adC f (nI x) 0 := mvF_row (by omega)
  have a0 : ∀ b, ¬ b = 0 → adC f (nI x) 0 b = f 0 b := fun b hb => by
    unfold adC
    rw [gset_ne (by omega), gset_row0 (by omega)]
  have sr : ∀ a, ¬ a = 0 → ¬ a = 1 → ¬ a = 2 → sp1 f (bit t) x a = f a := fun a h0 h1 h2 => (mvF_row h2).trans (by
    funext b
    unfold adC
    rw [gset_row0 h0, gset_row0 h1])
  have rr : ∀ a, a < 12 → spF f (bit t) x a = sp1 f (bit t) x a := fun a ha => ra_row hIs ha
  have fT : nT (spF f (bit t) x) = nT f := by unfold nT; rw [rr 0 (by omega), s0, a0 1 (by omega)]
  have f2 : ∀ k, k < nT f → spF f (bit t) x 2 k = if k = t then nI (nC f) else f 2 k := fun k hk => by
    rw [rr 2 (by omega), sp1_2 hk]
    by_cases q : k = t
    · rw [if_pos q, if_pos ((hs_bit (by omega) (by omega)).mpr q)]
    · rw [if_neg q, if_neg (fun z => q ((hs_bit (by omega) (by omega)).mp z))]
  refine ⟨_, rfl, sp_J hJ hC hx (bit_part hT24 ht e2), fT, ?_, ?_, ?_, ?_⟩
  · unfold nC
    rw [rr 0 (by omega), s0]
    show (adC f (nI x) 0 0).toNatClampNeg = _
    unfold adC
    rw [gset_eq, nI_clamp (by omega)]
    rfl
  · rw [f2 t ht, if_pos rfl]
  · rw [pcn_ofC (by rw [fT]; exact hT24), fT]
    have e : ∀ n, n ≤ nT f → ofN (spF f (bit t) x) (nC f) n = if t < n then 1 else 0 := by
      intro n
      induction n with
      | zero => intro _; rfl
      | succ n ih =>
        intro hn
        have h1 := ih (by omega)
        have h2 : decide (spF f (bit t) x 2 n = nI (nC f)) = decide (n = t) := decide_eq_decide.mpr ⟨fun z => by
          rw [f2 n (by omega)] at z
          by_cases q : n = t
          · exact q
          · rw [if_neg q] at z
            obtain ⟨c', hc', ec⟩ := hJ.co n (by omega)
            rw [ec] at z
            have := (g_eq (by omega) (by omega)).mp z
            omega, fun z => by rw [f2 n (by omega), if_pos z]⟩
        show ct _ (n + 1) = _
        have h3 : ofN (spF f (bit t) x) (nC f) (n + 1) = ofN (spF f (bit t) x) (nC f) n + (if decide (spF f (bit t) x 2 n = nI (nC f)) = true then 1 else 0) := rfl
        refine h3.trans ?_
        rw [h1, h2]
        by_cases q : n = t
        · subst q
          rw [if_neg (by omega), if_pos (decide_eq_true rfl), if_pos (by omega)]
        · rw [if_neg (fun z => q (of_decide_eq_true z))]
          by_cases y : t < n
          · rw [if_pos y, if_pos (by omega)]
          · rw [if_neg y, if_neg (by omega)]
    rw [e (nT f) (Nat.le_refl _), if_pos ht]
  · exact (ra_tsx hJ (sr 12 (by omega) (by omega) (by omega)) (sr 11 (by omega) (by omega) (by omega)) (by unfold nD; rw [s0, a0 2 (by omega)])).2
theorem am_pass {f : CS} {dy n : Nat} (hJ : J f dy) (hn : dy + n ≤ 199) : ∃ f1 td, f1 = paF f n ∧ paN f n = td ∧ riF f n = nI td ∧ J f1 (dy + n) ∧ tsN f1 (nI 1) + td = tsN f (nI 1) ∧ tsN f (nI 2) ≤ tsN f1 (nI 2) := by
  obtain ⟨h1, h2, h3⟩ := pa_all hJ hn
  exact ⟨_, _, rfl, rfl, h1.symm, pa_J hJ n hn, h2, h3⟩
theorem am_approve {f : CS} {dy t : Nat} (hJ : J f dy) (ht : t < 6) (h : 0 < nL f t ∧ ¬ f 12 t = nI 1 ∧ fbI f t = -1) : ∃ f1, f1 = apF f t ∧ J f1 dy ∧ f1 12 t = nI 1 ∧ nI (uI f1 t (nI 3)) = nI 0 ∧ tsN f1 (nI 1) = tsN f (nI 1) + 1 := by
  have hr : ∀ a, ¬ a = 12 → apF f t a = f a := fun a ha => by
    funext b
    exact gset_row0 ha
  refine ⟨_, rfl, ap_J hJ ht h.1 h.2.2, gset_eq _ _ _ _, ?_, ap_ts (by rw [hJ.D2]; omega) h.1 h.2.1⟩
  have hL := (hJ.hI.2.2.2 t (by omega)).2
  have e : uI (apF f t) t (nI 3) = uI f t (nI 3) := by
    unfold uI uS isT nT nL
    rw [hr 11 (by omega), hr 5 (by omega), hr (40 + t) (by omega), hr 0 (by omega)]
  rw [e]
  by_cases z : uI f t (nI 3) = 0
  · rw [z]
  · have := (fb_ge hL).mpr z
    rw [h.2.2] at this
    exact absurd this (by decide)
theorem am_cut {f : CS} {dy t : Nat} (hJ : J f dy) (ht : t < 6) (h1 : 1 ≤ nL f t) : ∃ f1, f1 = dlF f t ∧ J f1 dy ∧ nL f1 t = nL f t - 1 ∧ f1 12 t = nI 0 := by
  have hL := hJ.hI.2.2.2 t (by omega)
  refine ⟨_, rfl, dl_J hJ ht h1, ?_, ?_⟩
  · unfold dlF nL
    rw [rdF_row (by omega)]
    unfold dl1
    rw [gset_row0 (by omega), gset_eq]
    exact nI_clamp (by omega)
  · unfold dlF
    rw [rdF_row (by omega)]
    exact gset_eq _ _ _ _
