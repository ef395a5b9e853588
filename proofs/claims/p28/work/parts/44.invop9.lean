/-! A vote for a term. -/
theorem mk_at3 {g : CS} {t i x : Nat} (hi : i < 3) (hx : x < 20) : mkF g t (nI i) (nI x) = gset g (60 + i) x (g (60 + i) x ||| bit t) := by
  unfold mkF
  rw [if_pos ⟨⟨nI_pos' (by omega), (g_lt (by omega) (by omega)).mpr hi⟩, nI_pos' (by omega), (g_lt (by omega) (by omega)).mpr hx⟩, nI_clamp (by omega), nI_clamp (by omega)]
  rfl
theorem vo_J {f : CS} {dy t : Nat} {v : Int32} (hJ : J f dy) (ht : t < nT f) (h0 : f 5 t = nI 0) : J (voF f t v True) dy := by
  obtain ⟨c, i, x, s, h1, h2, h3, h4, h5, h6, h7, h8, h9, h10⟩ := hJ.1.2.2.1.1 t ht
  have hs : s = 0 := (g_eq (by omega) (by omega)).mp (h8.symm.trans h0)
  obtain ⟨v6, v7⟩ := h10 hs
  by_cases q : 3 ≤ pcn (f 6 t ||| (nI 1 <<< (v &&& 31)))
  · have e := avF_ya (f := f) (t := t) (v := v) trivial q
    rw [h6, h7, mk_at3 h2 h3] at e
    have e5 : avF f t v True 5 t = nI 1 := by
      rw [e, gset_row0 (by omega), gset_eq]
    unfold voF
    rw [if_pos e5]
    refine ra_J (ad_J0 hJ.1 ht h2 h3 h6 h7 (fun a ha => ?_) (fun a k ha hk => ?_) e5 ?_ (fun y hy => ?_) h0)
    · funext b
      rw [e, gset_row0 (by omega), gset_row0 (by omega), gset_row0 (by omega)]
    · rw [e, gset_row0 (by omega), gset_ne (by omega), gset_ne (by omega)]
    · rw [e, gset_eq, gset_row0 (by omega), gset_row0 (by omega)]
    · rw [e, gset_ne (by omega), gset_row0 (by omega), gset_row0 (by omega)]
  · have e := avF_yn (f := f) (t := t) (v := v) trivial q (by omega)
    have e5 : ¬ avF f t v True 5 t = nI 1 := by
      rw [e, gset_row0 (by omega), h0]
      decide
    unfold voF
    rw [if_neg e5, e]
    refine vt_J hJ ht (fun a ha => ?_) (fun a k hk => gset_ne (by omega)) ?_ ?_
    · funext b
      rw [gset_row0 (by omega)]
    · rw [gset_eq]; omega
    · rw [gset_row0 (by omega)]; exact v7
