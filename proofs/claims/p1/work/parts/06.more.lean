theorem gid_13 {t : Nat} (h : t < 3) : gid (13 + t) = 60 + t := by
  unfold gid; rw [if_neg (by omega), if_pos (by omega)]; omega
theorem gid_19 {t : Nat} (h : t < 18) : gid (19 + t) = 20 + t := by
  unfold gid; rw [if_neg (by omega), if_neg (by omega), if_neg (by omega), if_pos (by omega)]; omega
theorem gid_38 {t : Nat} (h : t < 18) : gid (38 + t) = 40 + t := by
  unfold gid; rw [if_neg (by omega), if_neg (by omega), if_neg (by omega), if_neg (by omega)]; omega
theorem gn_13 {t : Nat} (h : t < 3) : gn (13 + t) = 20 := by
  unfold gn; rw [if_neg (by omega), if_neg (by omega), if_pos (by omega)]
theorem gn_19 {t : Nat} (h : t < 18) : gn (19 + t) = 12 := by
  unfold gn; rw [if_neg (by omega), if_neg (by omega), if_neg (by omega), if_neg (by omega)]
theorem gn_38 {t : Nat} (h : t < 18) : gn (38 + t) = 12 := by
  unfold gn; rw [if_neg (by omega), if_neg (by omega), if_neg (by omega), if_neg (by omega)]
section GM
variable {p : Program} {l : Launch} {e : Env} {R : Room} {s : State} {m : MethodId} {args : Array Value} {below : List Frame} {meth : Method} {c : Code} {H : Heap} {locs : List Loc} {cells slots : Nat} {Q : State → Prop}
variable {cc : ByteArray} {pc : Nat} {ls : Array Slot} {rest : List Value} {a b : Nat}
theorem g_iaddn (hx : p.tables.exec = Jvm.exec) (hb : c.code = cc) (hdg : decode cc pc = .ok (.iadd, 1)) (k : W p l e R s m args below meth c H locs cells slots Q (F0 m (pc + 1) ls (.int (nI (a + b)) :: rest))) : W p l e R s m args below meth c H locs cells slots Q (F0 m pc ls (.int (nI b) :: .int (nI a) :: rest)) :=
  lv_iadd hx hb hdg (by rw [show nI a + nI b = nI (a + b) from (Int32.ofNat_add a b).symm]; exact k)
theorem g_imuln (hx : p.tables.exec = Jvm.exec) (hb : c.code = cc) (hdg : decode cc pc = .ok (.imul, 1)) (k : W p l e R s m args below meth c H locs cells slots Q (F0 m (pc + 1) ls (.int (nI (a * b)) :: rest))) : W p l e R s m args below meth c H locs cells slots Q (F0 m pc ls (.int (nI b) :: .int (nI a) :: rest)) :=
  lv_imul hx hb hdg (by rw [show nI a * nI b = nI (a * b) from (Int32.ofNat_mul a b).symm]; exact k)
end GM
theorem nz {x : Int32} {n : Nat} (h0 : 0 ≤ x) (h : x < nI n) (hn : n < 2 ^ 31) : ∃ u, u < n ∧ x = nI u := by
  have e : (0 : Int) ≤ x.toInt := Int32.le_iff_toInt_le.mp h0
  refine ⟨x.toNatClampNeg, ?_, ?_⟩
  · have h1 := Int32.lt_iff_toInt_lt.mp h
    rw [nI_toInt hn] at h1
    show x.toInt.toNat < n
    omega
  · apply Int32.toInt_inj.mp
    have hb : x.toNatClampNeg < 2 ^ 31 := by
      have h1 := Int32.lt_iff_toInt_lt.mp h
      rw [nI_toInt hn] at h1
      show x.toInt.toNat < 2 ^ 31
      omega
    rw [nI_toInt hb]
    show x.toInt = ((x.toInt.toNat : Nat) : Int)
    omega
theorem gz1 {C : Prop} [Decidable C] (h : C) : Value.int (nI 1) = Value.int (if C then 1 else 0) := by rw [if_pos h]; rfl
theorem gz0 {C : Prop} [Decidable C] (h : ¬ C) : Value.int (nI 0) = Value.int (if C then 1 else 0) := by rw [if_neg h]; rfl
/-! What the methods answer, told once more over f. -/
def ct (p : Nat → Bool) : Nat → Nat
  | 0 => 0
  | n + 1 => ct p n + (if p n then 1 else 0)
theorem ct_y {p : Nat → Bool} {n : Nat} (h : p n = true) : ct p (n + 1) = ct p n + 1 := by simp [ct, h]
theorem ct_n {p : Nat → Bool} {n : Nat} (h : ¬ p n = true) : ct p (n + 1) = ct p n := by simp [ct, h]
theorem ct_le (p : Nat → Bool) : ∀ n, ct p n ≤ n
  | 0 => Nat.le_refl 0
  | n + 1 => by
    have := ct_le p n
    unfold ct
    split <;> omega
def aT (p : Nat → Bool) : Nat → Bool
  | 0 => false
  | n + 1 => aT p n || p n
theorem aT_iff {p : Nat → Bool} : ∀ {n : Nat}, aT p n = true ↔ ∃ t, t < n ∧ p t = true
  | 0 => ⟨fun h => absurd h (by unfold aT; decide), fun ⟨_, h, _⟩ => absurd h (Nat.not_lt_zero _)⟩
  | n + 1 => by
    unfold aT
    rw [Bool.or_eq_true, aT_iff]
    constructor
    · rintro (⟨t, h1, h2⟩ | h)
      · exact ⟨t, by omega, h2⟩
      · exact ⟨n, by omega, h⟩
    · rintro ⟨t, h1, h2⟩
      by_cases e : t = n
      · subst e; exact Or.inr h2
      · exact Or.inl ⟨t, by omega, h2⟩
def bit (k : Nat) : Int32 := nI 1 <<< (nI k &&& 31)
def mk (p : Nat → Bool) : Nat → Int32
  | 0 => 0
  | n + 1 => if p n then mk p n ||| bit n else mk p n
def hs (x y : Int32) : Bool := decide (¬ ((x >>> (y &&& 31)) &&& nI 1) = 0)
/-- the first place of n that p holds at, or n -/
def fst (p : Nat → Bool) (n : Nat) : Nat := ((List.range n).find? p).getD n
theorem fst_ex {p : Nat → Bool} {n k : Nat} (hk : k < n) (hp : p k = true) (ho : ∀ t, t < k → ¬ p t = true) : fst p n = k := by
  have : (List.range n).find? p = some k := by
    rw [List.find?_eq_some_iff_getElem]
    refine ⟨hp, k, by simpa using hk, by simp, ?_⟩
    intro j hj
    have := ho j hj
    simpa using this
  simp [fst, this]
theorem fst_no {p : Nat → Bool} {n : Nat} (ho : ∀ t, t < n → ¬ p t = true) : fst p n = n := by
  have : (List.range n).find? p = none := by
    rw [List.find?_eq_none]
    intro x hx
    exact ho x (List.mem_range.mp hx)
  simp [fst, this]
theorem fst_cases (p : Nat → Bool) (n : Nat) : (fst p n < n ∧ p (fst p n) = true ∧ ∀ t, t < fst p n → ¬ p t = true) ∨ (fst p n = n ∧ ∀ t, t < n → ¬ p t = true) := by
  cases h : (List.range n).find? p with
  | none =>
    rw [List.find?_eq_none] at h
    exact Or.inr ⟨fst_no (fun t ht => h t (List.mem_range.mpr ht)), fun t ht => h t (List.mem_range.mpr ht)⟩
  | some k =>
    rw [List.find?_eq_some_iff_getElem] at h
    obtain ⟨hp, i, hi, he, ho⟩ := h
    have hi' : i < n := by simpa using hi
    have he' : i = k := by simpa using he
    subst he'
    have e := fst_ex hi' hp (fun t ht => by have := ho t ht; simpa using this)
    rw [e]
    exact Or.inl ⟨hi', hp, fun t ht => by have := ho t ht; simpa using this⟩
/-- isConcept, isTerm of any number -/
abbrev isC (f : CS) (x : Int32) : Prop := 0 ≤ x ∧ x < nI (nC f)
abbrev isT (f : CS) (x : Int32) : Prop := 0 ≤ x ∧ x < nI (nT f)
abbrev isS (g x : Int32) : Prop := (0 ≤ g ∧ g < nI 3) ∧ 0 ≤ x ∧ x < nI 20
def hasT (f : CS) (c g x : Int32) : Bool := aT (fun t => decide (f 2 t = c ∧ f 3 t = g ∧ f 4 t = x)) (nT f)
def prT (f : CS) (c g : Int32) : Nat := fst (fun t => decide (f 2 t = c ∧ f 3 t = g ∧ f 5 t = nI 2)) (nT f)
/-- the PREFERRED one of a CONCEPT in a LANGUAGE, or -1 -/
def prI (f : CS) (c g : Int32) : Int32 := if prT f c g < nT f then nI (prT f c g) else -1
def due (f : CS) (d : Int32) : Int32 := mk (fun t => decide (f 5 t = nI 3 ∧ f 8 t + f 9 t ≤ d)) (nT f)
def ofC (f : CS) (c : Int32) : Int32 := mk (fun t => decide (f 2 t = c)) (nT f)
abbrev canJ (f : CS) (a b : Int32) : Prop := aT (fun t => decide (f 2 t = a) && hasT f b (f 3 t) (f 4 t)) (nT f) = false
abbrev canB (f : CS) (t : Nat) : Prop := f 5 t = nI 1 ∨ f 5 t = nI 2
/-- the set of what a form of a language can be -/
def cb (f : CS) (g : Nat) (x : Int32) : Int32 := if 0 ≤ x / nI 4 ∧ x / nI 4 < nI 20 then f (60 + g) (x / nI 4).toNatClampNeg else 0
def own (f : CS) (t : Nat) (mv kp : Int32) : Int32 := if f 2 t = mv then kp else f 2 t
def domI (f : CS) (t : Nat) (mv kp : Int32) : Int32 := if isC f (own f t mv kp) then f 1 (own f t mv kp).toNatClampNeg else -1
