/-! What the methods of the texts answer, told over f. -/
def pcn (x : Int32) : Nat := ct (fun i => x.toBitVec.getLsbD i) 32
theorem pcn_le (x : Int32) : pcn x ≤ 32 := ct_le _ 32
theorem pcn_lt {x : Int32} : pcn x < 2 ^ 31 := Nat.lt_of_le_of_lt (pcn_le x) (by decide)
def oneI (x : Int32) : Int32 := if pcn x = 1 then nI (pcn (x - nI 1)) else -1
def sm (g : Nat → Nat) : Nat → Nat
  | 0 => 0
  | n + 1 => sm g n + g n
/-- the only one that the form on a place can be, or -1 -/
def pl (f : CS) (t o : Nat) : Int32 := oneI (cb f (t % 3) (f (20 + t) o))
def supP (f : CS) (k t p : Nat) (a b : Int32) (o : Nat) : Bool := decide (p - 3 ≤ o ∧ ¬ o = p ∧ isT f (pl f t o) ∧ domI f (pl f t o).toNatClampNeg a b = domI f k a b)
/-- how many near plain forms stand for the term k -/
def sup (f : CS) (k t p : Nat) (a b : Int32) : Nat := ct (supP f k t p a b) (if p + 4 ≤ nL f t then p + 4 else nL f t)
theorem sup_lt {f : CS} {k t p : Nat} {a b : Int32} (h : nL f t ≤ 12) : sup f k t p a b < 2 ^ 31 := by
  refine Nat.lt_of_le_of_lt (ct_le _ _) ?_
  split <;> omega
/-- the best term so far, and how many stand for it -/
def bst (f : CS) (t p : Nat) (x a b : Int32) : Nat → Int32 × Int32
  | 0 => (-1, -1)
  | k + 1 => if hs x (nI k) = true ∧ (bst f t p x a b k).2 < nI (sup f k t p a b) then (nI k, nI (sup f k t p a b)) else bst f t p x a b k
/-- what a form would be on a place -/
def useF (f : CS) (t p : Nat) (x a b : Int32) : Int32 := if pcn (cb f (t % 3) x) < 2 then oneI (cb f (t % 3) x) else (bst f t p (cb f (t % 3) x) a b (nT f)).1
def chP (f : CS) (a b : Int32) (t p : Nat) : Bool := decide (¬ useF f t p (f (20 + t) p) a b = f (40 + t) p)
def chN (f : CS) (a b : Int32) : Nat := sm (fun t => ct (chP f a b t) (nL f t)) (nD f * 3)
def uA (f : CS) (t : Nat) (x : Int32) : Nat := ct (fun p => decide (¬ f (40 + t) p = -1 ∧ hs x (f (40 + t) p) = true)) (nL f t)
theorem uA_le (f : CS) (t : Nat) (x : Int32) : uA f t x ≤ nL f t := ct_le _ _
abbrev uS (f : CS) (t p : Nat) (x : Int32) : Prop := isT f (f (40 + t) p) ∧ f 5 (f (40 + t) p).toNatClampNeg = x
def uI (f : CS) (t : Nat) (x : Int32) : Nat := ct (fun p => decide (uS f t p x)) (nL f t)
theorem uI_le (f : CS) (t : Nat) (x : Int32) : uI f t x ≤ nL f t := ct_le _ _
def fbN (f : CS) (t : Nat) : Nat := fst (fun p => decide (uS f t p (nI 3))) (nL f t)
def fbI (f : CS) (t : Nat) : Int32 := if fbN f t < nL f t then nI (fbN f t) else -1
def csN (f : CS) (t : Nat) : Nat := if uA f t (-1) = 0 then 100 else 100 * uI f t (nI 2) / uA f t (-1)
theorem csN_le {f : CS} {t : Nat} (h : nL f t ≤ 12) : csN f t ≤ 1200 := by
  unfold csN
  split
  · omega
  · have h1 := uI_le f t (nI 2)
    have h2 : 100 * uI f t (nI 2) / uA f t (-1) ≤ 100 * uI f t (nI 2) := Nat.div_le_self _ _
    omega
def amN (f : CS) (t : Nat) : Nat := ct (fun p => decide (1 < pcn (cb f (t % 3) (f (20 + t) p)))) (nL f t)
def cIn (f : CS) (t : Nat) : Nat → Int32
  | 0 => 0
  | k + 1 => if isT f (f (40 + t) k) then cIn f t k ||| (nI 1 <<< (f 2 (f (40 + t) k).toNatClampNeg &&& 31)) else cIn f t k
def agS (f : CS) (d : Nat) : Nat → Int32 × Int32
  | 0 => (0, -1)
  | k + 1 => if 0 < nL f (d * 3 + k) then ((agS f d k).1 ||| cIn f (d * 3 + k) (nL f (d * 3 + k)), (agS f d k).2 &&& cIn f (d * 3 + k) (nL f (d * 3 + k))) else agS f d k
def agN (f : CS) (d : Nat) : Nat := if pcn (agS f d 3).1 = 0 then 100 else 100 * pcn ((agS f d 3).1 &&& (agS f d 3).2) / pcn (agS f d 3).1
def apN (f : CS) (d : Nat) : Nat := ct (fun l => decide (f 12 (d * 3 + l) = nI 1)) 3
def hasA (f : CS) (d : Nat) (x : Int32) : Bool := aT (fun l => decide (f 12 (d * 3 + l) = nI 1 ∧ 0 < uA f (d * 3 + l) x)) 3
def roN (f : CS) (x : Int32) : Nat := sm (fun d => if hasA f d x = true then apN f d else 0) (nD f)
def usN (f : CS) (x : Int32) : Nat := sm (fun t => uA f t x) (nD f * 3)
def dwN (f : CS) (x : Int32) : Nat := ct (fun d => decide (0 < sm (fun l => uA f (d * 3 + l) x) 3)) (nD f)
def tsN (f : CS) (x : Int32) : Nat := ct (fun t => decide (0 < nL f t ∧ f 12 t = x)) (nD f * 3)
def twN (f : CS) : Nat := ct (fun t => decide (0 < nL f t)) (nD f * 3)
def scN (f : CS) : Nat := sm (fun t => if 0 < nL f t then csN f t else 0) (nD f * 3)
theorem g_rem {a b : Nat} (ha : a < 2 ^ 31) (hb : b < 2 ^ 31) : nI a - nI a / nI b * nI b = nI (a % b) := by
  apply Int32.toInt_inj.mp
  rw [nI_toInt (Nat.lt_of_le_of_lt (Nat.mod_le _ _) ha)]
  have h1 : (nI a / nI b) = nI (a / b) := by
    apply Int32.toInt_inj.mp
    rw [Int32.toInt_div_of_ne_left _ _ (by intro h; have := congrArg Int32.toInt h; rw [nI_toInt ha] at this; have h2 : (Int32.minValue).toInt = -2147483648 := by decide
                                           omega), nI_toInt ha, nI_toInt hb, nI_toInt (Nat.lt_of_le_of_lt (Nat.div_le_self _ _) ha)]
    exact (Int.ofNat_tdiv a b).symm
  rw [h1, show nI (a / b) * nI b = nI (a / b * b) from (Int32.ofNat_mul _ _).symm]
  have hle : a / b * b ≤ a := Nat.div_mul_le_self a b
  have h2 : nI a - nI (a / b * b) = nI (a - a / b * b) := by
    have : nI a = nI (a - a / b * b) + nI (a / b * b) := by
      rw [show nI (a - a / b * b) + nI (a / b * b) = nI ((a - a / b * b) + a / b * b) from (Int32.ofNat_add _ _).symm, Nat.sub_add_cancel hle]
    rw [this, Int32.add_sub_cancel]
  rw [h2, nI_toInt (by omega)]
  have h3 := Nat.div_add_mod a b
  rw [Nat.mul_comm] at h3
  omega
theorem g_div {a b : Nat} (ha : a < 2 ^ 31) (hb : b < 2 ^ 31) : nI a / nI b = nI (a / b) := by
  apply Int32.toInt_inj.mp
  rw [Int32.toInt_div_of_ne_left _ _ (by intro h; have := congrArg Int32.toInt h; rw [nI_toInt ha] at this; have h2 : (Int32.minValue).toInt = -2147483648 := by decide
                                         omega), nI_toInt ha, nI_toInt hb, nI_toInt (Nat.lt_of_le_of_lt (Nat.div_le_self _ _) ha)]
  exact (Int.ofNat_tdiv a b).symm
theorem g_sub {a b : Nat} (h : b ≤ a) : nI a - nI b = nI (a - b) := by
  have : nI a = nI (a - b) + nI b := by
    rw [show nI (a - b) + nI b = nI ((a - b) + b) from (Int32.ofNat_add _ _).symm, Nat.sub_add_cancel h]
  rw [this, Int32.add_sub_cancel]
section GN
variable {p : Program} {l : Launch} {e : Env} {R : Room} {s : State} {m : MethodId} {args : Array Value} {below : List Frame} {meth : Method} {c : Code} {H : Heap} {locs : List Loc} {cells slots : Nat} {Q : State → Prop}
variable {cc : ByteArray} {pc : Nat} {ls : Array Slot} {rest : List Value} {a b : Nat}
theorem g_iremn (hx : p.tables.exec = Jvm.exec) (hb : c.code = cc) (ha : a < 2 ^ 31) (hb2 : b < 2 ^ 31) (h0 : 0 < b) (hdg : decode cc pc = .ok (.irem, 1)) (k : W p l e R s m args below meth c H locs cells slots Q (F0 m (pc + 1) ls (.int (nI (a % b)) :: rest))) : W p l e R s m args below meth c H locs cells slots Q (F0 m pc ls (.int (nI b) :: .int (nI a) :: rest)) :=
  lv_irem hx hb hdg (nI_ne0 h0 hb2) (by rw [g_rem ha hb2]; exact k)
theorem g_idivn (hx : p.tables.exec = Jvm.exec) (hb : c.code = cc) (ha : a < 2 ^ 31) (hb2 : b < 2 ^ 31) (h0 : 0 < b) (hdg : decode cc pc = .ok (.idiv, 1)) (k : W p l e R s m args below meth c H locs cells slots Q (F0 m (pc + 1) ls (.int (nI (a / b)) :: rest))) : W p l e R s m args below meth c H locs cells slots Q (F0 m pc ls (.int (nI b) :: .int (nI a) :: rest)) :=
  lv_idiv hx hb hdg (nI_ne0 h0 hb2) (by rw [g_div ha hb2]; exact k)
theorem g_isubn (hx : p.tables.exec = Jvm.exec) (hb : c.code = cc) (h : b ≤ a) (hdg : decode cc pc = .ok (.isub, 1)) (k : W p l e R s m args below meth c H locs cells slots Q (F0 m (pc + 1) ls (.int (nI (a - b)) :: rest))) : W p l e R s m args below meth c H locs cells slots Q (F0 m pc ls (.int (nI b) :: .int (nI a) :: rest)) :=
  lv_isub hx hb hdg (by rw [g_sub h]; exact k)
end GN
theorem g_min1 {a b : Nat} (ha : a < 1000) (hb : b < 1000) : (if nI b - nI 1 < nI a then nI b - nI 1 else nI a) = nI (if a + 1 ≤ b then a + 1 else b) - nI 1 := by
  have e : nI (a + 1) - nI 1 = nI a := by rw [g_sub (by omega)]; rfl
  rcases Nat.eq_zero_or_pos b with h | h
  · subst h
    rw [if_neg (show ¬ a + 1 ≤ 0 by omega), if_pos]
    have : nI 0 - nI 1 = -1 := by decide
    rw [this]
    exact Int32.lt_iff_toInt_lt.mpr (by rw [nI_toInt (by omega)]; have : (-1 : Int32).toInt = -1 := by decide
                                        omega)
  · rw [g_sub (show 1 ≤ b from h)]
    by_cases q : a + 1 ≤ b
    · rw [if_pos q, e, if_neg (fun z => by have := (g_lt (by omega) (by omega)).mp z; omega)]
    · rw [if_neg q, g_sub (show 1 ≤ b from h), if_pos ((g_lt (by omega) (by omega)).mpr (by omega))]
theorem g_max3 {p : Nat} (hp : p < 1000) : (if nI p - nI 3 < nI 0 then nI 0 else nI p - nI 3) = nI (p - 3) := by
  by_cases h : 3 ≤ p
  · rw [g_sub h, if_neg (fun z => absurd ((g_lt (by omega) (by omega)).mp z) (by omega))]
  · have : p = 0 ∨ p = 1 ∨ p = 2 := by omega
    rcases this with rfl | rfl | rfl <;> decide
theorem g_pred {E o : Nat} (hE : E < 1000) (ho : o < 1000) : nI E - nI 1 < nI o ↔ E ≤ o := by
  rcases Nat.eq_zero_or_pos E with h | h
  · subst h
    have : nI 0 - nI 1 = -1 := by decide
    rw [this]
    exact ⟨fun _ => Nat.zero_le _, fun _ => Int32.lt_iff_toInt_lt.mpr (by rw [nI_toInt (by omega)]; have : (-1 : Int32).toInt = -1 := by decide
                                                                          omega)⟩
  · rw [g_sub (show 1 ≤ E from h), g_lt (by omega) (by omega)]
    omega
theorem ct_0 {p : Nat → Bool} : ∀ {n : Nat}, (∀ t, t < n → ¬ p t = true) → ct p n = 0
  | 0, _ => rfl
  | n + 1, h => by rw [ct_n (h n (by omega)), ct_0 (fun t ht => h t (by omega))]
theorem sup_0 {f : CS} {k t p : Nat} {a b : Int32} {n : Nat} (h : n ≤ p - 3) : ct (supP f k t p a b) n = 0 := ct_0 (fun q hq z => by have := (of_decide_eq_true z).1; omega)
theorem sm3 {g : Nat → Nat} (h : ∀ l, l < 3 → g l ≤ 12) : sm g 3 < 2 ^ 31 := by
  have h0 := h 0 (by omega)
  have h1 := h 1 (by omega)
  have h2 := h 2 (by omega)
  show 0 + g 0 + g 1 + g 2 < 2 ^ 31
  omega
