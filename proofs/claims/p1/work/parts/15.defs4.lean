/-! What the face's writing calls leave. -/
theorem mkF_row {f : CS} {t : Nat} {g x : Int32} {a : Nat} (h : a < 60) : mkF f t g x a = f a := by
  unfold mkF
  split
  · funext b; exact gset_row0 (by omega)
  · rfl
theorem av1_row {f : CS} {t : Nat} {v : Int32} {b : Prop} [Decidable b] {a : Nat} (h : a ≠ 6) (h2 : a ≠ 7) : av1 f t v b a = f a := by
  unfold av1
  split
  · funext q; exact gset_row0 h
  · funext q; exact gset_row0 h2
theorem avF_row {f : CS} {t : Nat} {v : Int32} {b : Prop} [Decidable b] {a : Nat} (h : a ≠ 6) (h2 : a ≠ 7) (h3 : a ≠ 5) (h4 : a < 60) : avF f t v b a = f a := by
  unfold avF
  split
  · rw [mkF_row h4]; funext q; rw [gset_row0 h3, av1_row h h2]
  · split
    · funext q; rw [gset_row0 h2, gset_row0 h, av1_row h h2]
    · exact av1_row h h2
theorem avI {f : CS} {t : Nat} {v : Int32} {b : Prop} [Decidable b] (hI : gI f) : gI (avF f t v b) := gI_of (fun q _ => by rw [avF_row (by decide) (by decide) (by decide) (by decide)]) (avF_row (by decide) (by decide) (by decide) (by decide)) hI
def voF (f : CS) (t : Nat) (v : Int32) (b : Prop) [Decidable b] : CS := if avF f t v b 5 t = nI 1 then raA (avF f t v b) else avF f t v b
theorem foF_row {f : CS} {t : Nat} {d g : Int32} {a : Nat} (h : a ≠ 5) (h2 : a ≠ 8) (h3 : a ≠ 9) : foF f t d g a = f a := by
  funext q
  unfold foF
  rw [gset_row0 h3, gset_row0 h2, gset_row0 h]
theorem foI {f : CS} {t : Nat} {d g : Int32} (hI : gI f) : gI (foF f t d g) := gI_of (fun q _ => by rw [foF_row (by decide) (by decide) (by decide)]) (foF_row (by decide) (by decide) (by decide)) hI
def bn1 (f : CS) (t : Nat) (g : Int32) : CS := foF f t (f 0 3) g
def bnF (f : CS) (t : Nat) (g : Int32) : CS := rpF (bn1 f t g) (due (bn1 f t g) (f 0 3)) (nD (bn1 f t g))
theorem adC_I {f : CS} {x : Int32} (hI : gI f) (h : nC f < 12) : gI (adC f x) := by
  have e0 : adC f x 0 0 = nI (nC f + 1) := by simp [adC, gset]
  have e1 : adC f x 0 1 = f 0 1 := by simp [adC, gset]
  have e2 : adC f x 0 2 = f 0 2 := by simp [adC, gset]
  have e3 : adC f x 11 = f 11 := by funext b; simp [adC, gset]
  refine ⟨?_, ?_, ?_, ?_⟩
  · unfold nT; rw [e1]; exact hI.1
  · show adC f x 0 0 = nI (adC f x 0 0).toNatClampNeg ∧ (adC f x 0 0).toNatClampNeg ≤ 12
    rw [e0, nI_clamp (by omega)]
    exact ⟨rfl, by omega⟩
  · unfold nD; rw [e2]; exact hI.2.2.1
  · unfold nL; rw [e3]; exact hI.2.2.2
theorem mvF_row {f : CS} {x c : Int32} {n a : Nat} (h : a ≠ 2) : mvF f x c n a = f a := funext fun _ => if_neg (fun q => h q.1)
theorem mvI {f : CS} {x c : Int32} {n : Nat} (hI : gI f) : gI (mvF f x c n) := gI_of (fun q _ => by rw [mvF_row (by decide)]) (mvF_row (by decide)) hI
def sp1 (f : CS) (s : Int32) (x : Nat) : CS := mvF (adC f (nI x)) s (nI (nC f)) (nT (adC f (nI x)))
def spF (f : CS) (s : Int32) (x : Nat) : CS := raA (sp1 f s x)
theorem unA_I {f : CS} {x y : Int32} (hI : gI f) : gI (unA f x y) := mvI (unF_I hI 3)
theorem raA_I {f : CS} (hI : gI f) : gI (raA f) := rpF_I ((rlF_ag (by have := hI.2.2.1.2; omega)).I hI)
def joF (f : CS) (a b : Nat) : CS := raA (unA f (nI (if b < a then b else a)) (nI (if a < b then b else a)))
def apF (f : CS) (t : Nat) : CS := gset f 12 t (nI 1)
theorem apI {f : CS} {t : Nat} (hI : gI f) : gI (apF f t) := gI_of (fun b _ => by simp [apF, gset]) (by funext b; simp [apF, gset]) hI
def pa1 (g : CS) : CS := gset g 0 3 (g 0 3 + nI 1)
theorem pa1_I {f : CS} (hI : gI f) : gI (pa1 f) := gI_of (fun b hb => gset_ne (fun q => by omega)) (by funext b; simp [pa1, gset]) hI
def paF (f : CS) : Nat → CS
  | 0 => f
  | k + 1 => rpF (pa1 (paF f k)) (due (pa1 (paF f k)) (paF f k 0 3 + nI 1)) (nD (pa1 (paF f k)))
def paN (f : CS) : Nat → Nat
  | 0 => 0
  | k + 1 => paN f k + roN (pa1 (paF f k)) (due (pa1 (paF f k)) (paF f k 0 3 + nI 1))
theorem paI {f : CS} (hI : gI f) : ∀ k, gI (paF f k)
  | 0 => hI
  | k + 1 => rpF_I (pa1_I (paI hI k))
