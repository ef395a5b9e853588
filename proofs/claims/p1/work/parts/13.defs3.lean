/-! What the texts' writing methods leave. -/
theorem avF_nn {f : CS} {t : Nat} {v : Int32} {b : Prop} [Decidable b] (hb : ¬ b) (h1 : ¬ 3 ≤ pcn (f 6 t)) (h2 : ¬ 3 ≤ pcn (f 7 t ||| (nI 1 <<< (v &&& 31)))) : avF f t v b = gset f 7 t (f 7 t ||| (nI 1 <<< (v &&& 31))) := by
  have hv1 : av1 f t v b = _ := if_neg hb
  unfold avF
  rw [hv1, gset_eq, gset_row0 (by decide), if_neg h1, if_neg h2]
theorem avF_nc {f : CS} {t : Nat} {v : Int32} {b : Prop} [Decidable b] (hb : ¬ b) (h1 : ¬ 3 ≤ pcn (f 6 t)) (h2 : 3 ≤ pcn (f 7 t ||| (nI 1 <<< (v &&& 31)))) : avF f t v b = gset (gset (gset f 7 t (f 7 t ||| (nI 1 <<< (v &&& 31)))) 6 t (nI 0)) 7 t (nI 0) := by
  have hv1 : av1 f t v b = _ := if_neg hb
  unfold avF
  rw [hv1, gset_eq, gset_row0 (by decide), if_neg h1, if_pos h2]
theorem avF_na {f : CS} {t : Nat} {v : Int32} {b : Prop} [Decidable b] (hb : ¬ b) (h1 : 3 ≤ pcn (f 6 t)) : avF f t v b = mkF (gset (gset f 7 t (f 7 t ||| (nI 1 <<< (v &&& 31)))) 5 t (nI 1)) t (f 3 t) (f 4 t) := by
  have hv1 : av1 f t v b = _ := if_neg hb
  unfold avF
  rw [hv1, gset_eq, gset_row0 (by decide), if_pos h1]
theorem avF_yn {f : CS} {t : Nat} {v : Int32} {b : Prop} [Decidable b] (hb : b) (h1 : ¬ 3 ≤ pcn (f 6 t ||| (nI 1 <<< (v &&& 31)))) (h2 : ¬ 3 ≤ pcn (f 7 t)) : avF f t v b = gset f 6 t (f 6 t ||| (nI 1 <<< (v &&& 31))) := by
  have hv1 : av1 f t v b = _ := if_pos hb
  unfold avF
  rw [hv1, gset_eq, gset_row0 (by decide), if_neg h1, if_neg h2]
theorem avF_yc {f : CS} {t : Nat} {v : Int32} {b : Prop} [Decidable b] (hb : b) (h1 : ¬ 3 ≤ pcn (f 6 t ||| (nI 1 <<< (v &&& 31)))) (h2 : 3 ≤ pcn (f 7 t)) : avF f t v b = gset (gset (gset f 6 t (f 6 t ||| (nI 1 <<< (v &&& 31)))) 6 t (nI 0)) 7 t (nI 0) := by
  have hv1 : av1 f t v b = _ := if_pos hb
  unfold avF
  rw [hv1, gset_eq, gset_row0 (by decide), if_neg h1, if_pos h2]
theorem avF_ya {f : CS} {t : Nat} {v : Int32} {b : Prop} [Decidable b] (hb : b) (h1 : 3 ≤ pcn (f 6 t ||| (nI 1 <<< (v &&& 31)))) : avF f t v b = mkF (gset (gset f 6 t (f 6 t ||| (nI 1 <<< (v &&& 31)))) 5 t (nI 1)) t (f 3 t) (f 4 t) := by
  have hv1 : av1 f t v b = _ := if_pos hb
  unfold avF
  rw [hv1, gset_eq, if_pos h1]
/-- two worlds that differ in the rows of the uses alone -/
def agU (f g : CS) : Prop := ∀ a, a < 40 ∨ 58 ≤ a → g a = f a
theorem agU.T {f g : CS} (h : agU f g) : nT g = nT f := by unfold nT; rw [h 0 (by omega)]
theorem agU.C {f g : CS} (h : agU f g) : nC g = nC f := by unfold nC; rw [h 0 (by omega)]
theorem agU.D {f g : CS} (h : agU f g) : nD g = nD f := by unfold nD; rw [h 0 (by omega)]
theorem agU.L {f g : CS} (h : agU f g) (t : Nat) : nL g t = nL f t := by unfold nL; rw [h 11 (by omega)]
theorem agU.I {f g : CS} (h : agU f g) (hI : gI f) : gI g := gI_of (fun b _ => by rw [h 0 (by omega)]) (h 11 (by omega)) hI
theorem agU.cbE {f g : CS} (h : agU f g) {i : Nat} (x : Int32) : cb g i x = cb f i x := by
  unfold cb
  rw [h (60 + i) (by omega)]
theorem agU.dom {f g : CS} (h : agU f g) (t : Nat) (a b : Int32) : domI g t a b = domI f t a b := by
  unfold domI own
  simp only [h 1 (by omega), h 2 (by omega), isC, h.C]
theorem agU.plE {f g : CS} (h : agU f g) {t : Nat} (ht : t < 18) (o : Nat) : pl g t o = pl f t o := by
  unfold pl
  rw [h.cbE, h (20 + t) (by omega)]
theorem agU.supE {f g : CS} (h : agU f g) {t : Nat} (ht : t < 18) (k p : Nat) (a b : Int32) : sup g k t p a b = sup f k t p a b := by
  unfold sup
  rw [h.L]
  congr 1
  funext o
  unfold supP
  simp only [h.plE ht, h.dom, isT, h.T]
theorem agU.bstE {f g : CS} (h : agU f g) {t : Nat} (ht : t < 18) (p : Nat) (x a b : Int32) : ∀ n, bst g t p x a b n = bst f t p x a b n
  | 0 => rfl
  | n + 1 => by
    show (if _ then _ else _) = (if _ then _ else _)
    rw [h.bstE ht p x a b n, h.supE ht]
theorem agU.use {f g : CS} (h : agU f g) {t : Nat} (ht : t < 18) (p : Nat) (x a b : Int32) : useF g t p x a b = useF f t p x a b := by
  unfold useF
  rw [h.cbE, h.bstE ht, h.T]
def rdF (f : CS) (t n : Nat) : CS := fun a b => if a = 40 + t ∧ b < n then useF f t b (f (20 + t) b) (-1) (-1) else f a b
theorem rdF_row {f : CS} {t n a b : Nat} (h : a ≠ 40 + t) : rdF f t n a b = f a b := if_neg (fun q => h q.1)
theorem rdF_ag {f : CS} {t n : Nat} (ht : t < 18) : agU f (rdF f t n) := fun a ha => funext fun b => rdF_row (by omega)
theorem rdF_0 (f : CS) (t : Nat) : rdF f t 0 = f := by
  funext a b
  exact if_neg (fun q => absurd q.2 (Nat.not_lt_zero _))
theorem rdF_s {f : CS} {t k : Nat} (ht : t < 18) : rdF f t (k + 1) = gset (rdF f t k) (40 + t) k (useF (rdF f t k) t k (f (20 + t) k) (-1) (-1)) := by
  rw [(rdF_ag ht).use ht]
  funext a b
  unfold rdF gset
  by_cases h1 : a = 40 + t
  · by_cases h2 : b = k
    · subst h2; simp [h1]
    · have : b < k + 1 ↔ b < k := by omega
      simp [h1, h2, this]
  · simp [h1]
def pu1 (f : CS) (t p : Nat) (x : Int32) : CS := if p = nL f t then gset (gset f (20 + t) p x) 11 t (nI (nL f t + 1)) else gset f (20 + t) p x
def puN (f : CS) (t p : Nat) : Nat := if p = nL f t then nL f t + 1 else nL f t
def puF (f : CS) (t p : Nat) (x : Int32) : CS := rdF (gset (pu1 f t p x) 12 t (nI 0)) t (puN f t p)
def dl1 (f : CS) (t : Nat) : CS := gset (gset f 11 t (nI (nL f t - 1))) 12 t (nI 0)
def dlF (f : CS) (t : Nat) : CS := rdF (dl1 f t) t (nL f t - 1)
def reF (f : CS) (d n : Nat) : CS := fun a b => if a = 12 ∧ d * 3 ≤ b ∧ b < d * 3 + n ∧ f 12 b = nI 1 then nI 2 else f a b
theorem reF_0 (f : CS) (d : Nat) : reF f d 0 = f := by
  funext a b
  exact if_neg (fun q => by omega)
theorem reF_at {f : CS} {d n : Nat} : reF f d n 12 (d * 3 + n) = f 12 (d * 3 + n) := if_neg (fun q => by omega)
theorem reF_n {f : CS} {d k : Nat} (h : ¬ f 12 (d * 3 + k) = nI 1) : reF f d (k + 1) = reF f d k := by
  funext a b
  unfold reF
  by_cases h2 : b = d * 3 + k
  · subst h2; simp [h]
  · have : b < d * 3 + (k + 1) ↔ b < d * 3 + k := by omega
    simp [this]
theorem reF_y {f : CS} {d k : Nat} (h : f 12 (d * 3 + k) = nI 1) : reF f d (k + 1) = gset (reF f d k) 12 (d * 3 + k) (nI 2) := by
  funext a b
  unfold reF gset
  by_cases h1 : a = 12
  · by_cases h2 : b = d * 3 + k
    · subst h2; simp [h1, h]
    · have : b < d * 3 + (k + 1) ↔ b < d * 3 + k := by omega
      simp [h1, h2, this]
  · simp [h1]
/-- the texts of the first n documents that are reopened where x is overdue -/
def rpF (f : CS) (x : Int32) (n : Nat) : CS := fun a b => if a = 12 ∧ b < n * 3 ∧ hasA f (b / 3) x = true ∧ f 12 b = nI 1 then nI 2 else f a b
theorem rpF_row {f : CS} {x : Int32} {n a : Nat} (h : a ≠ 12) : rpF f x n a = f a := funext fun _ => if_neg (fun q => h q.1)
theorem rpF_0 (f : CS) (x : Int32) : rpF f x 0 = f := by
  funext a b
  exact if_neg (fun q => by omega)
theorem rpF_I {f : CS} {x : Int32} {n : Nat} (hI : gI f) : gI (rpF f x n) := gI_of (fun b _ => by rw [rpF_row (by omega)]) (rpF_row (by omega)) hI
theorem rpF_uA {f : CS} {x : Int32} {n t : Nat} (y : Int32) : uA (rpF f x n) t y = uA f t y := by
  unfold uA nL
  rw [rpF_row (show 11 ≠ 12 by omega), rpF_row (show 40 + t ≠ 12 by omega)]
theorem rpF_has {f : CS} {x : Int32} {n : Nat} (y : Int32) : hasA (rpF f x n) n y = hasA f n y := by
  unfold hasA
  congr 1
  funext l
  rw [rpF_uA]
  have : rpF f x n 12 (n * 3 + l) = f 12 (n * 3 + l) := if_neg (fun q => by omega)
  rw [this]
theorem rpF_n {f : CS} {x : Int32} {n : Nat} (h : ¬ hasA f n x = true) : rpF f x (n + 1) = rpF f x n := by
  funext a b
  unfold rpF
  by_cases h2 : b < n * 3
  · have : b < (n + 1) * 3 := by omega
    simp [h2, this]
  · by_cases h3 : b < (n + 1) * 3
    · have : b / 3 = n := by omega
      simp [h2, this, h]
    · simp [h2, h3]
theorem rpF_y {f : CS} {x : Int32} {n : Nat} (h : hasA f n x = true) : rpF f x (n + 1) = reF (rpF f x n) n 3 := by
  funext a b
  by_cases h1 : a = 12
  · subst h1
    unfold reF
    by_cases h2 : b < n * 3
    · have h4 : b < (n + 1) * 3 := by omega
      rw [if_neg (fun q => by omega)]
      unfold rpF
      simp [h2, h4]
    · have e : rpF f x n 12 b = f 12 b := if_neg (fun q => by omega)
      rw [e]
      by_cases h3 : b < (n + 1) * 3
      · have h5 : b / 3 = n := by omega
        have h6 : n * 3 ≤ b ∧ b < n * 3 + 3 := by omega
        unfold rpF
        simp [h3, h5, h, h6]
      · have h6 : ¬ b < n * 3 + 3 := by omega
        unfold rpF
        simp [h3, h6]
  · unfold reF
    rw [if_neg (fun q => h1 q.1), rpF_row h1, rpF_row h1]
/-- the uses of the first n texts, read anew -/
def rlF (f : CS) (n : Nat) : CS := fun a b => if 40 ≤ a ∧ a < 40 + n ∧ b < nL f (a - 40) then useF f (a - 40) b (f (a - 20) b) (-1) (-1) else f a b
theorem rlF_0 (f : CS) : rlF f 0 = f := by
  funext a b
  exact if_neg (fun q => by omega)
theorem rlF_ag {f : CS} {n : Nat} (h : n ≤ 18) : agU f (rlF f n) := fun a ha => funext fun b => if_neg (fun q => by omega)
theorem rlF_s {f : CS} {n : Nat} (h : n < 18) : rlF f (n + 1) = rdF (rlF f n) n (nL (rlF f n) n) := by
  have hag := rlF_ag (f := f) (n := n) (by omega)
  rw [hag.L]
  funext a b
  unfold rdF
  by_cases h1 : a = 40 + n
  · subst h1
    rw [hag.use h, hag (20 + n) (by omega)]
    unfold rlF
    have e1 : 40 + n - 40 = n := by omega
    have e2 : 40 + n - 20 = 20 + n := by omega
    rw [e1, e2]
    by_cases h2 : b < nL f n
    · rw [if_pos ⟨by omega, by omega, h2⟩, if_pos ⟨rfl, h2⟩]
    · rw [if_neg (fun q => h2 q.2.2), if_neg (fun q => h2 q.2), if_neg (fun q => by omega)]
  · rw [if_neg (fun q => h1 q.1)]
    unfold rlF
    by_cases h2 : a < 40 + n
    · have : a < 40 + (n + 1) := by omega
      simp [h2, this]
    · have : ¬ a < 40 + (n + 1) := by omega
      simp [h2, this]
def raA (f : CS) : CS := rpF (rlF f (nD f * 3)) (due (rlF f (nD f * 3)) (f 0 3)) (nD f)
