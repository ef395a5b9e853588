/-! What a use depends on. -/
theorem ct_cut (p : Nat → Bool) (m : Nat) : ∀ d, ct (fun o => decide (o < m) && p o) (m + d) = ct p m
  | 0 => ct_cong (fun k hk => by simp; intro; omega)
  | d + 1 => by
    show ct _ (m + d + 1) = _
    rw [ct_n (by simp; intro; omega), ct_cut p m d]
theorem ct_ext {p q : Nat → Bool} {m n : Nat} (h : ∀ o, (o < m ∧ p o = true) ↔ (o < n ∧ q o = true)) : ct p m = ct q n := by
  rw [← ct_cut p m n, ← ct_cut q n m, Nat.add_comm n m]
  refine ct_cong (fun o _ => ?_)
  have := h o
  cases h1 : p o <;> cases h2 : q o <;> simp_all
/-- two worlds in which a use on the place p of the text t is the same -/
def agP (f g : CS) (t p : Nat) (a b : Int32) : Prop := nT g = nT f ∧ (∀ x, cb g (t % 3) x = cb f (t % 3) x) ∧ (∀ k, domI g k a b = domI f k a b) ∧ ∀ o, ¬ o = p → (o < nL g t ↔ o < nL f t) ∧ (o < nL f t → pl g t o = pl f t o)
theorem agP.sup {f g : CS} {t p : Nat} {a b : Int32} (h : agP f g t p a b) (k : Nat) : sup g k t p a b = sup f k t p a b := by
  obtain ⟨hT, hc, hd, hp⟩ := h
  refine ct_ext (fun o => ?_)
  have hlt : ∀ q : CS, o < (if p + 4 ≤ nL q t then p + 4 else nL q t) ↔ o < p + 4 ∧ o < nL q t := fun q => by split <;> omega
  rw [hlt, hlt]
  by_cases e : o = p
  · have h1 : ∀ q : CS, ¬ supP q k t p a b o = true := fun q z => (of_decide_eq_true z).2.1 e
    exact ⟨fun z => absurd z.2 (h1 g), fun z => absurd z.2 (h1 f)⟩
  · obtain ⟨h1, h2⟩ := hp o e
    constructor
    · rintro ⟨⟨z1, z2⟩, z3⟩
      have z4 := h1.mp z2
      refine ⟨⟨z1, z4⟩, ?_⟩
      unfold supP at z3 ⊢
      simpa only [h2 z4, hd, isT, hT] using z3
    · rintro ⟨⟨z1, z2⟩, z3⟩
      refine ⟨⟨z1, h1.mpr z2⟩, ?_⟩
      unfold supP at z3 ⊢
      simpa only [h2 z2, hd, isT, hT] using z3
theorem agP.bst {f g : CS} {t p : Nat} {a b : Int32} (h : agP f g t p a b) (x : Int32) : ∀ n, bst g t p x a b n = bst f t p x a b n
  | 0 => rfl
  | n + 1 => by
    show (if _ then _ else _) = (if _ then _ else _)
    rw [h.bst x n, h.sup]
theorem agP.use {f g : CS} {t p : Nat} {a b : Int32} (h : agP f g t p a b) (x : Int32) : useF g t p x a b = useF f t p x a b := by
  unfold useF
  rw [h.2.1, h.bst, h.1]
theorem cb_row {f g : CS} {i : Nat} (h : g (60 + i) = f (60 + i)) (x : Int32) : cb g i x = cb f i x := by
  unfold cb
  rw [h]
theorem dom_row {f g : CS} (h0 : g 0 0 = f 0 0) (h1 : g 1 = f 1) (h2 : g 2 = f 2) (t : Nat) (a b : Int32) : domI g t a b = domI f t a b := by
  unfold domI own isC nC
  rw [h0, h1, h2]
theorem pu1_at {f : CS} {t p : Nat} {x : Int32} {a : Nat} (h : ¬ a = 20 + t) (h2 : ¬ a = 11) : pu1 f t p x a = f a := by
  funext b
  unfold pu1
  split
  · rw [gset_row0 h2, gset_row0 h]
  · exact gset_row0 h
theorem puF_at {f : CS} {t p : Nat} {x : Int32} {a : Nat} (h : ¬ a = 20 + t) (h1 : ¬ a = 11) (h2 : ¬ a = 12) (h3 : ¬ a = 40 + t) : puF f t p x a = f a := by
  unfold puF
  funext b
  rw [rdF_row h3, gset_row0 h2, pu1_at h h1]
theorem pu_len {f : CS} {t p : Nat} {x : Int32} (hI : gI f) (ht : t < 18) (hp : p < 12) : nL (puF f t p x) t = puN f t p := by
  have hL := hI.2.2.2 t ht
  unfold puF
  show ((rdF _ t _) 11 t).toNatClampNeg = _
  rw [rdF_row (by omega), gset_row0 (by omega)]
  unfold pu1 puN
  split
  · rw [gset_eq, nI_clamp (by omega)]
  · rw [gset_row0 (by omega)]
    rfl
/-- a use on the place where a form is written does not depend on what stood there -/
theorem use_put {f : CS} {t p : Nat} {x y : Int32} (hI : gI f) (ht : t < 18) (hp : p < 12) (hpl : p ≤ nL f t) (a b : Int32) : useF (puF f t p x) t p y a b = useF f t p y a b := by
  refine agP.use ⟨?_, ?_, ?_, ?_⟩ y
  · unfold nT
    rw [puF_at (by omega) (by omega) (by omega) (by omega)]
  · exact cb_row (puF_at (by omega) (by omega) (by omega) (by omega))
  · exact fun k => dom_row (by rw [puF_at (by omega) (by omega) (by omega) (by omega)]) (puF_at (by omega) (by omega) (by omega) (by omega)) (puF_at (by omega) (by omega) (by omega) (by omega)) k a b
  · intro o ho
    rw [pu_len hI ht hp]
    refine ⟨by unfold puN; split <;> omega, fun _ => ?_⟩
    unfold pl
    rw [cb_row (puF_at (by omega) (by omega) (by omega) (by omega))]
    have e : puF f t p x (20 + t) o = f (20 + t) o := by
      unfold puF
      rw [rdF_row (by omega), gset_row0 (by omega)]
      unfold pu1
      split
      · rw [gset_row0 (by omega), gset_ne (by omega)]
      · rw [gset_ne (by omega)]
    rw [e]
/-- what is read on the place that was written -/
theorem pu_use {f : CS} {t p : Nat} {x : Int32} (hI : gI f) (ht : t < 18) (hp : p < 12) (hpl : p ≤ nL f t) : puF f t p x (40 + t) p = useF f t p x (-1) (-1) := by
  have hlt : p < puN f t p := by unfold puN; split <;> omega
  have e1 : puF f t p x (40 + t) p = useF (gset (pu1 f t p x) 12 t (nI 0)) t p (gset (pu1 f t p x) 12 t (nI 0) (20 + t) p) (-1) (-1) := if_pos ⟨rfl, hlt⟩
  have e2 : gset (pu1 f t p x) 12 t (nI 0) (20 + t) p = x := by
    rw [gset_row0 (by omega)]
    unfold pu1
    split
    · rw [gset_row0 (by omega), gset_eq]
    · rw [gset_eq]
  rw [e1, e2, ← use_put (x := x) hI ht hp hpl]
  unfold puF
  rw [(rdF_ag ht).use ht]
theorem puI {f : CS} {t p : Nat} {x : Int32} (hI : gI f) (ht : t < 18) (hp : p < 12) (hpl : p ≤ nL f t) : gI (puF f t p x) := by
  refine (rdF_ag ht).I ?_
  unfold pu1
  by_cases e : p = nL f t
  · rw [if_pos e]
    exact puI_y hI ht (by omega) e
  · rw [if_neg e]
    exact puI_n hI ht
theorem pu_D {f : CS} {t p : Nat} {x : Int32} : nD (puF f t p x) = nD f := by
  unfold nD
  rw [puF_at (by omega) (by omega) (by omega) (by omega)]
theorem pu_12 {f : CS} {t p : Nat} {x : Int32} : puF f t p x 12 t = nI 0 := by
  unfold puF
  rw [rdF_row (by omega), gset_eq]
theorem ff_cases {f : CS} {t p k st : Nat} (e : f 4 k = nI st) : ffF f t p k = -1 ∨ (useF f t p (nI (st * 4)) (-1) (-1) = nI k ∧ ffF f t p k = nI (st * 4)) := by
  have e4 : f 4 k * nI 4 = nI (st * 4) := by rw [e]; exact (Int32.ofNat_mul _ _).symm
  unfold ffF
  rw [e4]
  by_cases h : useF f t p (nI (st * 4)) (-1) (-1) = nI k
  · rw [if_pos h]
    exact Or.inr ⟨h, rfl⟩
  · rw [if_neg h]
    exact Or.inl rfl
section GZ
variable {p : Program} {l : Launch} {e : Env} {R : Room} {s : State} {m : MethodId} {args : Array Value} {below : List Frame} {meth : Method} {c : Code} {H : Heap} {locs : List Loc} {cells slots : Nat}
variable {cc : ByteArray} {pc : Nat} {ls : Array Slot} {w : GP} {f : CS} {own : String} {nL : Nat} {fr : Nat → Prop}
theorem g_zretW (G : Gx p c cc nL s args own m meth (some .boolean)) (hG : GS w (gA w) s H locs f) {v : Int32} {post : Option Value → CS → Prop} (hv : post (some (.int v)) f) (hn : v = 0 ∨ v = 1) (hdg : decode cc pc = .ok (.ireturn, 1)) : W p l e R s m args below meth c H locs 0 0 (MQ below (gWr w post) args s 0 0 (gA w)) (F0 m pc ls [.int v]) :=
  W.zret (ty := .boolean) G.1.1 G.1.2.1 G.2.1 (by rcases hn with rfl | rfl <;> decide) (fun t ht hW => ⟨⟨_, f, rfl, hv, by rw [ht]; exact hG.1.moved hW⟩, hG.2.1.F ht⟩) hG.2.1.2.2 hdg G.2.2
end GZ
