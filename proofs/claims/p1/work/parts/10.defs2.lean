/-! What the calls of the face answer, told over f. -/
def otF (f : CS) (t : Nat) : Nat → Int32
  | 0 => f 2 t
  | 1 => f 3 t
  | 2 => f 4 t
  | 3 => f 5 t
  | 4 => nI (pcn (f 6 t))
  | 5 => nI (pcn (f 7 t))
  | 6 => if f 5 t = nI 3 then f 8 t else -1
  | _ => nI (usN f (bit t))
def ocF (f : CS) (c : Nat) : Nat → Int32
  | 0 => f 1 c
  | 1 => nI (pcn (ofC f (nI c)))
  | 2 => prI f (nI c) (nI 0)
  | 3 => prI f (nI c) (nI 1)
  | 4 => prI f (nI c) (nI 2)
  | 5 => nI (usN f (ofC f (nI c)))
  | _ => nI (dwN f (ofC f (nI c)))
def oxF (f : CS) (t : Nat) : Nat → Int32
  | 0 => nI (nL f t)
  | 1 => f 12 t
  | 2 => nI (uA f t (-1))
  | 3 => nI (uI f t (nI 3))
  | 4 => fbI f t
  | 5 => nI (csN f t)
  | _ => nI (amN f t)
def maF (f : CS) : Nat → Int32
  | 0 => nI (nC f)
  | 1 => nI (ct (fun c => decide (¬ ofC f (nI c) = 0)) (nC f))
  | 2 => nI (nT f)
  | 3 => nI (ct (fun t => decide (f 5 t = nI 0)) (nT f))
  | 4 => nI (ct (fun t => decide (f 5 t = nI 1)) (nT f))
  | 5 => nI (ct (fun t => decide (f 5 t = nI 2)) (nT f))
  | 6 => nI (ct (fun t => decide (f 5 t = nI 3)) (nT f))
  | 7 => nI (nD f)
  | 8 => nI (tsN f (nI 0))
  | 9 => nI (tsN f (nI 1))
  | 10 => nI (tsN f (nI 2))
  | 11 => nI (usN f (-1))
  | _ => f 0 3
def rbF (f : CS) (t : Nat) : Int32 := if canB f t then nI (roN f (bit t)) else nI 0
def riF (f : CS) (k : Nat) : Int32 := nI (roN f (due f (f 0 3 + nI k)))
def cyF (f : CS) (a b : Nat) : Int32 := if canJ f (nI a) (nI b) then nI (chN f (nI (if a < b then b else a)) (nI (if b < a then b else a))) else -1
def ffF (f : CS) (t p k : Nat) : Int32 := if useF f t p (f 4 k * nI 4) (-1) (-1) = nI k then f 4 k * nI 4 else -1
def dgl (g : Nat → Int32) (d : Int64) : Nat → Int64
  | 0 => d
  | n + 1 => dgl g d n * 31 + (g n).toInt64
def dgT (f : CS) (d : Int64) : Nat → Int64
  | 0 => d
  | n + 1 => dgl (otF f n) (dgT f d n) 8 * 31 + (rbF f n).toInt64
def dgC (f : CS) (d : Int64) : Nat → Int64
  | 0 => d
  | n + 1 => dgl (ocF f n) (dgC f d n) 7
def dgX (f : CS) (d : Int64) : Nat → Int64
  | 0 => d
  | n + 1 => dgl (f (40 + n)) (dgl (oxF f n) (dgX f d n) 7) (nL f n)
def dig (f : CS) : Int64 := dgl (fun d => nI (agN f d)) (dgX f (dgC f (dgT f (dgl (maF f) 58116 13) (nT f)) (nC f)) (nD f * 3)) (nD f) * 31 + (riF f 10).toInt64
section GI2
variable {p : Program} {l : Launch} {e : Env} {R : Room} {s : State} {m : MethodId} {args : Array Value} {below : List Frame} {meth : Method} {c : Code} {H : Heap} {locs : List Loc} {cells slots : Nat} {Q : State → Prop}
variable {cc : ByteArray} {pc : Nat} {ls : Array Slot} {rest : List Value} {w : GP} {f : CS}
theorem g_ialv (hx : p.tables.exec = Jvm.exec) (hb : c.code = cc) (hV : GV w s f H) (j : Nat) (hj : j < 56) (ha : 3 ≤ j ∧ j ≠ 12 ∧ j ≠ 18 ∧ j ≠ 37) {a n : Nat} (hid : gid j = a) (hn : gn j = n) {i : Nat} {v : Int32} (hi : i < n) (hv : f a i = v) (hdg : decode cc pc = .ok (.iaload, 1))
    (kk : W p l e R s m args below meth c H locs cells slots Q (F0 m (pc + 1) ls (.int v :: rest))) : W p l e R s m args below meth c H locs cells slots Q (F0 m pc ls (.int (nI i) :: .ref (w.2.2.2 j) :: rest)) :=
  g_ialn hx hb hV j hj ha hid hn hi hdg (by rw [hv]; exact kk)
end GI2
theorem ez0 (t : Nat) : (0 = 20 + t) = False := by simp; omega
theorem ez11 (t : Nat) : (11 = 20 + t) = False := by simp; omega
theorem ez12 (t : Nat) : (12 = 20 + t) = False := by simp; omega
theorem eo11 (t : Nat) : (20 + t = 11) = False := by simp; omega
theorem eo12 (t : Nat) : (20 + t = 12) = False := by simp; omega
theorem ez5 (t : Nat) : (5 = 20 + t) = False := by simp; omega
theorem eu11 (t : Nat) : (40 + t = 11) = False := by simp; omega
theorem eu12 (t : Nat) : (40 + t = 12) = False := by simp; omega
theorem eu20 (t : Nat) : (40 + t = 20 + t) = False := by simp
/-! What the writing methods leave. -/
def adC (f : CS) (x : Int32) : CS := gset (gset f 1 (nC f) x) 0 0 (nI (nC f + 1))
def adT (f : CS) (c g x : Int32) : CS := gset (gset (gset (gset (gset f 2 (nT f) c) 3 (nT f) g) 4 (nT f) x) 5 (nT f) (nI 0)) 0 1 (nI (nT f + 1))
def mkF (f : CS) (t : Nat) (g x : Int32) : CS := if isS g x then gset f (60 + g.toNatClampNeg) x.toNatClampNeg (f (60 + g.toNatClampNeg) x.toNatClampNeg ||| (nI 1 <<< (nI t &&& 31))) else f
def av1 (f : CS) (t : Nat) (v : Int32) (b : Prop) [Decidable b] : CS := if b then gset f 6 t (f 6 t ||| (nI 1 <<< (v &&& 31))) else gset f 7 t (f 7 t ||| (nI 1 <<< (v &&& 31)))
def avF (f : CS) (t : Nat) (v : Int32) (b : Prop) [Decidable b] : CS :=
  if 3 ≤ pcn (av1 f t v b 6 t) then mkF (gset (av1 f t v b) 5 t (nI 1)) t (f 3 t) (f 4 t)
  else if 3 ≤ pcn (av1 f t v b 7 t) then gset (gset (av1 f t v b) 6 t (nI 0)) 7 t (nI 0) else av1 f t v b
def raF (f : CS) (t : Nat) : CS := gset (if isT f (prI f (f 2 t) (f 3 t)) then gset f 5 (prI f (f 2 t) (f 3 t)).toNatClampNeg (nI 1) else f) 5 t (nI 2)
def foF (f : CS) (t : Nat) (d g : Int32) : CS := gset (gset (gset f 5 t (nI 3)) 8 t d) 9 t g
def mvF (f : CS) (x c : Int32) (n : Nat) : CS := fun a b => if a = 2 ∧ b < n ∧ hs x (nI b) = true then c else f a b
theorem mvF_0 (f : CS) (x c : Int32) : mvF f x c 0 = f := by
  funext a b
  simp [mvF]
theorem mvF_y {f : CS} {x c : Int32} {n : Nat} (h : hs x (nI n) = true) : mvF f x c (n + 1) = gset (mvF f x c n) 2 n c := by
  funext a b
  unfold mvF gset
  by_cases h1 : a = 2
  · by_cases h2 : b = n
    · subst h2; simp [h1, h]
    · have : b < n + 1 ↔ b < n := by omega
      simp [h1, h2, this]
  · simp [h1]
theorem mvF_n {f : CS} {x c : Int32} {n : Nat} (h : ¬ hs x (nI n) = true) : mvF f x c (n + 1) = mvF f x c n := by
  funext a b
  unfold mvF
  by_cases h2 : b = n
  · subst h2; simp [h]
  · have : b < n + 1 ↔ b < n := by omega
    simp [this]
def un1 (g : CS) (x y q : Int32) : CS := if isT g (prI g x q) ∧ isT g (prI g y q) then gset g 5 (if prI g x q < prI g y q then prI g y q else prI g x q).toNatClampNeg (nI 1) else g
def unF (f : CS) (x y : Int32) : Nat → CS
  | 0 => f
  | k + 1 => un1 (unF f x y k) x y (nI k)
theorem gI_of {f g : CS} (h0 : ∀ b, b < 3 → g 0 b = f 0 b) (h1 : g 11 = f 11) (h : gI f) : gI g := by
  have e1 : nT g = nT f := by unfold nT; rw [h0 1 (by omega)]
  have e2 : nC g = nC f := by unfold nC; rw [h0 0 (by omega)]
  have e3 : nD g = nD f := by unfold nD; rw [h0 2 (by omega)]
  have e4 : ∀ t, nL g t = nL f t := fun t => by unfold nL; rw [h1]
  refine ⟨by rw [h0 1 (by omega), e1]; exact h.1, by rw [h0 0 (by omega), e2]; exact h.2.1, by rw [h0 2 (by omega), e3]; exact h.2.2.1, fun t ht => by rw [h1, e4]; exact h.2.2.2 t ht⟩
theorem gset_row0 {f : CS} {a i b c : Nat} {v : Int32} (h : c ≠ a) : gset f a i v c b = f c b := gset_ne (fun q => h q.1)
theorem un1_0 (g : CS) (x y q : Int32) (a : Nat) (h : a ≠ 5) : un1 g x y q a = g a := by
  unfold un1
  split
  · funext b; exact gset_row0 h
  · rfl
theorem unF_0 (f : CS) (x y : Int32) (a : Nat) (h : a ≠ 5) : ∀ k, unF f x y k a = f a
  | 0 => rfl
  | k + 1 => by
    show un1 (unF f x y k) x y (nI k) a = f a
    rw [un1_0 _ _ _ _ a h, unF_0 f x y a h k]
theorem unF_I {f : CS} {x y : Int32} (h : gI f) (k : Nat) : gI (unF f x y k) := gI_of (fun b _ => by rw [unF_0 f x y 0 (by omega) k]) (unF_0 f x y 11 (by omega) k) h
def unA (f : CS) (x y : Int32) : CS := mvF (unF f x y 3) (ofC (unF f x y 3) y) x (nT (unF f x y 3))
