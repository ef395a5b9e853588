/-! Integer.bitCount: how many bits are set. -/
theorem ct_cong {p q : Nat → Bool} : ∀ {n : Nat}, (∀ k, k < n → p k = q k) → ct p n = ct q n
  | 0, _ => rfl
  | n + 1, h => by
    show ct p n + _ = ct q n + _
    rw [ct_cong (fun k hk => h k (by omega)), h n (by omega)]
theorem ct_add (p : Nat → Bool) (m : Nat) : ∀ n, ct p (m + n) = ct p m + ct (fun i => p (m + i)) n
  | 0 => rfl
  | n + 1 => by
    show ct p (m + n) + _ = ct p m + (ct (fun i => p (m + i)) n + _)
    rw [ct_add p m n]
    exact Nat.add_assoc _ _ _
theorem land16 {a m : Nat} (ha : a < 16) (hm : m < 16) (y M : Nat) : (a + 16 * y) &&& (m + 16 * M) = (a &&& m) + 16 * (y &&& M) := by
  have h1 := Nat.and_mod_two_pow (a := a + 16 * y) (b := m + 16 * M) (n := 4)
  have h2 := Nat.and_div_two_pow (a := a + 16 * y) (b := m + 16 * M) (n := 4)
  have e1 : (a + 16 * y) % 2 ^ 4 = a := by omega
  have e2 : (m + 16 * M) % 2 ^ 4 = m := by omega
  have e3 : (a + 16 * y) / 2 ^ 4 = y := by omega
  have e4 : (m + 16 * M) / 2 ^ 4 = M := by omega
  rw [e1, e2] at h1
  rw [e3, e4] at h2
  omega
theorem land256 {a m : Nat} (ha : a < 256) (hm : m < 256) (y M : Nat) : (a + 256 * y) &&& (m + 256 * M) = (a &&& m) + 256 * (y &&& M) := by
  have h1 := Nat.and_mod_two_pow (a := a + 256 * y) (b := m + 256 * M) (n := 8)
  have h2 := Nat.and_div_two_pow (a := a + 256 * y) (b := m + 256 * M) (n := 8)
  have e1 : (a + 256 * y) % 2 ^ 8 = a := by omega
  have e2 : (m + 256 * M) % 2 ^ 8 = m := by omega
  have e3 : (a + 256 * y) / 2 ^ 8 = y := by omega
  have e4 : (m + 256 * M) / 2 ^ 8 = M := by omega
  rw [e1, e2] at h1
  rw [e3, e4] at h2
  omega
def pc4 (n : Nat) : Nat := ct (fun i => n.testBit i) 4
def mB (c : Nat) : Nat → Nat
  | 0 => 0
  | k + 1 => c + 16 * mB c k
def bA : Nat → Nat → Nat
  | 0, _ => 0
  | k + 1, X => ((X % 16) / 2 &&& 5) + 16 * bA k (X / 16)
def bU : Nat → Nat → Nat
  | 0, _ => 0
  | k + 1, X => (X % 16 - ((X % 16) / 2 &&& 5)) + 16 * bU k (X / 16)
def bV : Nat → Nat → Nat
  | 0, _ => 0
  | k + 1, X => pc4 (X % 16) + 16 * bV k (X / 16)
def bS : Nat → Nat → Nat
  | 0, _ => 0
  | k + 1, X => pc4 (X % 16) + bS k (X / 16)
theorem dec1 : ∀ n, n < 16 → ∀ b, b < 2 → (n / 2 + 8 * b) &&& 5 = (n / 2) &&& 5 := by decide +kernel
theorem dec2 : ∀ n, n < 16 → (n / 2) &&& 5 ≤ n := by decide +kernel
theorem dec3 : ∀ n, n < 16 → ∀ b, b < 4 → ((n - (n / 2 &&& 5)) &&& 3) + (((n - (n / 2 &&& 5)) / 4 + 4 * b) &&& 3) = pc4 n := by decide +kernel
theorem dec4 : ∀ n, n < 16 → pc4 n ≤ 4 := by decide +kernel
theorem dec5 : ∀ a, a < 9 → ∀ b, b < 9 → (a + 16 * b) &&& 15 = a := by decide +kernel
theorem bA_eq : ∀ (k X : Nat), (X / 2) &&& mB 5 k = bA k X
  | 0, X => Nat.and_zero _
  | k + 1, X => by
    have h : X / 2 = ((X % 16) / 2 + 8 * ((X / 16) % 2)) + 16 * ((X / 16) / 2) := by omega
    show (X / 2) &&& (5 + 16 * mB 5 k) = _
    rw [h, land16 (by omega) (by decide), dec1 _ (by omega) _ (by omega), bA_eq k (X / 16)]
    rfl
theorem bU_eq : ∀ (k X : Nat), X < 16 ^ k → bA k X ≤ X ∧ X - bA k X = bU k X
  | 0, X, h => by
    have : X = 0 := by simpa using h
    subst this
    exact ⟨Nat.le_refl _, rfl⟩
  | k + 1, X, h => by
    have h1 : X / 16 < 16 ^ k := by
      rw [Nat.pow_succ] at h
      omega
    obtain ⟨a, b⟩ := bU_eq k (X / 16) h1
    have h2 := dec2 (X % 16) (by omega)
    unfold bA bU
    omega
theorem bV_eq : ∀ (k X : Nat), (bU k X &&& mB 3 k) + ((bU k X / 4) &&& mB 3 k) = bV k X
  | 0, X => by simp [bU, bV, mB]
  | k + 1, X => by
    have h0 := dec2 (X % 16) (by omega)
    have e : bU (k + 1) X = (X % 16 - ((X % 16) / 2 &&& 5)) + 16 * bU k (X / 16) := rfl
    have h : bU (k + 1) X / 4 = ((X % 16 - ((X % 16) / 2 &&& 5)) / 4 + 4 * (bU k (X / 16) % 4)) + 16 * (bU k (X / 16) / 4) := by
      rw [e]
      omega
    have m3 : mB 3 (k + 1) = 3 + 16 * mB 3 k := rfl
    rw [h, e, m3, land16 (by omega) (by decide), land16 (by omega) (by decide)]
    have h1 := dec3 (X % 16) (by omega) (bU k (X / 16) % 4) (by omega)
    have h2 := bV_eq k (X / 16)
    show _ = pc4 (X % 16) + 16 * bV k (X / 16)
    omega
theorem bS_eq : ∀ (k X : Nat), ct (fun i => X.testBit i) (4 * k) = bS k X
  | 0, X => rfl
  | k + 1, X => by
    rw [show 4 * (k + 1) = 4 + 4 * k by omega, ct_add]
    have h1 : ct (fun i => X.testBit i) 4 = pc4 (X % 16) := by
      unfold pc4
      refine ct_cong (fun i hi => ?_)
      rw [show (16 : Nat) = 2 ^ 4 from rfl, Nat.testBit_mod_two_pow]
      simp [hi]
    have h2 : (fun i => X.testBit (4 + i)) = (fun i => (X / 16).testBit i) := by
      funext i
      rw [show (16 : Nat) = 2 ^ 4 from rfl, Nat.testBit_div_two_pow]
      congr 1
      omega
    rw [h1, h2, bS_eq k (X / 16)]
    rfl
def s2 (Z : Nat) : Nat := (Z &&& 858993459) + ((Z / 4) &&& 858993459)
def s3 (Z : Nat) : Nat := (Z + Z / 16) &&& 252645135
theorem bc_nat {X : Nat} (h : X < 2 ^ 32) : s3 (bV 8 X) = bS 2 X + 256 * (bS 2 (X / 256) + 256 * (bS 2 (X / 65536) + 256 * bS 2 (X / 16777216))) ∧ s2 (bU 8 X) = bV 8 X ∧ X - ((X / 2) &&& 1431655765) = bU 8 X ∧ ((X / 2) &&& 1431655765) ≤ X := by
  have e5 : mB 5 8 = 1431655765 := by decide
  have e3 : mB 3 8 = 858993459 := by decide
  have a1 := bA_eq 8 X
  rw [e5] at a1
  obtain ⟨a2, a3⟩ := bU_eq 8 X (by simpa using h)
  have a4 := bV_eq 8 X
  rw [e3] at a4
  rw [a1]
  refine ⟨?_, a4, a3, a2⟩
  unfold s3
  have d : ∀ q, pc4 (X / q % 16) ≤ 4 := fun q => dec4 _ (by omega)
  have d0 : pc4 (X % 16) ≤ 4 := dec4 _ (by omega)
  have hv : bV 8 X = pc4 (X % 16) + 16 * (pc4 (X / 16 % 16) + 16 * (pc4 (X / 256 % 16) + 16 * (pc4 (X / 4096 % 16) + 16 * (pc4 (X / 65536 % 16) + 16 * (pc4 (X / 1048576 % 16) + 16 * (pc4 (X / 16777216 % 16) + 16 * pc4 (X / 268435456 % 16))))))) := by
    simp [bV, Nat.div_div_eq_div_mul]
  have hs0 : bS 2 X = pc4 (X % 16) + pc4 (X / 16 % 16) := by simp [bS]
  have hs1 : bS 2 (X / 256) = pc4 (X / 256 % 16) + pc4 (X / 4096 % 16) := by simp [bS, Nat.div_div_eq_div_mul]
  have hs2 : bS 2 (X / 65536) = pc4 (X / 65536 % 16) + pc4 (X / 1048576 % 16) := by simp [bS, Nat.div_div_eq_div_mul]
  have hs3 : bS 2 (X / 16777216) = pc4 (X / 16777216 % 16) + pc4 (X / 268435456 % 16) := by simp [bS, Nat.div_div_eq_div_mul]
  rw [hv, hs0, hs1, hs2, hs3]
  have q1 := d 16
  have q2 := d 256
  have q3 := d 4096
  have q4 := d 65536
  have q5 := d 1048576
  have q6 := d 16777216
  have q7 := d 268435456
  generalize pc4 (X % 16) = v0 at *
  generalize pc4 (X / 16 % 16) = v1 at *
  generalize pc4 (X / 256 % 16) = v2 at *
  generalize pc4 (X / 4096 % 16) = v3 at *
  generalize pc4 (X / 65536 % 16) = v4 at *
  generalize pc4 (X / 1048576 % 16) = v5 at *
  generalize pc4 (X / 16777216 % 16) = v6 at *
  generalize pc4 (X / 268435456 % 16) = v7 at *
  have e : (v0 + 16 * (v1 + 16 * (v2 + 16 * (v3 + 16 * (v4 + 16 * (v5 + 16 * (v6 + 16 * v7)))))) + (v0 + 16 * (v1 + 16 * (v2 + 16 * (v3 + 16 * (v4 + 16 * (v5 + 16 * (v6 + 16 * v7))))))) / 16) = ((v0 + v1) + 16 * (v1 + v2)) + 256 * (((v2 + v3) + 16 * (v3 + v4)) + 256 * (((v4 + v5) + 16 * (v5 + v6)) + 256 * (((v6 + v7) + 16 * v7) + 256 * 0))) := by omega
  have em : (252645135 : Nat) = 15 + 256 * (15 + 256 * (15 + 256 * (15 + 256 * 0))) := by decide
  rw [e, em, land256 (by omega) (by decide), land256 (by omega) (by decide), land256 (by omega) (by decide), land256 (by omega) (by decide), dec5 _ (by omega) _ (by omega), dec5 _ (by omega) _ (by omega), dec5 _ (by omega) _ (by omega), dec5 _ (by omega) _ (by omega)]
  simp
def s4 (Z : Nat) : Nat := (Z + Z / 256) + (Z + Z / 256) / 65536
theorem bc_end {w0 w1 w2 w3 : Nat} (h0 : w0 ≤ 8) (h1 : w1 ≤ 8) (h2 : w2 ≤ 8) (h3 : w3 ≤ 8) : s4 (w0 + 256 * (w1 + 256 * (w2 + 256 * w3))) % 64 = w0 + w1 + w2 + w3 := by
  unfold s4
  have e1 : (w0 + 256 * (w1 + 256 * (w2 + 256 * w3))) / 256 = w1 + 256 * (w2 + 256 * w3) := by omega
  rw [e1]
  have e2 : w0 + 256 * (w1 + 256 * (w2 + 256 * w3)) + (w1 + 256 * (w2 + 256 * w3)) = (w0 + w1) + 256 * ((w1 + w2) + 256 * ((w2 + w3) + 256 * w3)) := by omega
  rw [e2]
  have e3 : ((w0 + w1) + 256 * ((w1 + w2) + 256 * ((w2 + w3) + 256 * w3))) / 65536 = (w2 + w3) + 256 * w3 := by
    have e4 : ((w0 + w1) + 256 * ((w1 + w2) + 256 * ((w2 + w3) + 256 * w3))) / 65536 = ((w0 + w1) + 256 * ((w1 + w2) + 256 * ((w2 + w3) + 256 * w3))) / 256 / 256 := by rw [Nat.div_div_eq_div_mul]
    have e5 : ((w0 + w1) + 256 * ((w1 + w2) + 256 * ((w2 + w3) + 256 * w3))) / 256 = (w1 + w2) + 256 * ((w2 + w3) + 256 * w3) := by omega
    rw [e4, e5]
    omega
  rw [e3]
  have e6 : (w0 + w1) + 256 * ((w1 + w2) + 256 * ((w2 + w3) + 256 * w3)) + ((w2 + w3) + 256 * w3) = (w0 + w1 + w2 + w3) + 64 * (4 * ((w1 + w2) + 256 * ((w2 + w3) + 256 * w3)) + 4 * w3) := by omega
  rw [e6, Nat.add_mul_mod_self_left]
  exact Nat.mod_eq_of_lt (by omega)
theorem b_andI (a b : Nat) : nI a &&& nI b = nI (a &&& b) := by
  apply Int32.toBitVec_inj.mp
  show BitVec.ofNat 32 a &&& BitVec.ofNat 32 b = BitVec.ofNat 32 (a &&& b)
  apply BitVec.eq_of_toNat_eq
  simp [BitVec.toNat_and, Nat.and_mod_two_pow]
theorem b_ushrI {a : Nat} (ha : a < 2 ^ 32) (k : Nat) (hk : k = 1 ∨ k = 2 ∨ k = 4 ∨ k = 8 ∨ k = 16) : ((nI a).toUInt32 >>> ((nI k).toUInt32 &&& Int32.toUInt32 31)).toInt32 = nI (a / 2 ^ k) := by
  apply Int32.toBitVec_inj.mp
  have e : (((nI k).toUInt32 &&& Int32.toUInt32 31).toBitVec % 32).toNat = k := by rcases hk with rfl | rfl | rfl | rfl | rfl <;> decide
  apply BitVec.eq_of_toNat_eq
  show ((BitVec.ofNat 32 a) >>> (((nI k).toUInt32 &&& Int32.toUInt32 31).toBitVec % 32)).toNat = (BitVec.ofNat 32 (a / 2 ^ k)).toNat
  rw [BitVec.ushiftRight_eq', BitVec.toNat_ushiftRight, e, BitVec.toNat_ofNat, BitVec.toNat_ofNat, Nat.mod_eq_of_lt ha, Nat.shiftRight_eq_div_pow, Nat.mod_eq_of_lt]
  exact Nat.lt_of_le_of_lt (Nat.div_le_self _ _) ha
theorem b_of (x : Int32) : ∃ X, X < 2 ^ 32 ∧ x = nI X ∧ ∀ i, x.toBitVec.getLsbD i = X.testBit i := ⟨x.toBitVec.toNat, x.toBitVec.isLt, by
  apply Int32.toBitVec_inj.mp
  show x.toBitVec = BitVec.ofNat 32 x.toBitVec.toNat
  rw [BitVec.ofNat_toNat, BitVec.setWidth_eq], fun i => rfl⟩
theorem bV_lt : ∀ (k X : Nat), bV k X < 16 ^ k
  | 0, _ => by simp [bV]
  | k + 1, X => by
    have h1 := bV_lt k (X / 16)
    have h2 := dec4 (X % 16) (by omega)
    show pc4 (X % 16) + 16 * bV k (X / 16) < 16 ^ (k + 1)
    rw [Nat.pow_succ]
    omega
theorem bS2_le (X : Nat) : bS 2 X ≤ 8 := by
  have h1 := dec4 (X % 16) (by omega)
  have h2 := dec4 (X / 16 % 16) (by omega)
  show pc4 (X % 16) + (pc4 (X / 16 % 16) + 0) ≤ 8
  omega
theorem bc_pcn {X : Nat} (hbit : ∀ i, (nI X).toBitVec.getLsbD i = X.testBit i) : pcn (nI X) = bS 2 X + bS 2 (X / 256) + bS 2 (X / 65536) + bS 2 (X / 16777216) := by
  have h1 : pcn (nI X) = bS 8 X := by
    unfold pcn
    rw [← bS_eq 8 X]
    exact ct_cong (fun k _ => hbit k)
  rw [h1]
  simp [bS, Nat.div_div_eq_div_mul]
  omega
section GB
variable {p : Program} {l : Launch} {e : Env} {R : Room} {s : State} {m : MethodId} {args : Array Value} {below : List Frame} {meth : Method} {c : Code} {H : Heap} {locs : List Loc} {cells slots : Nat} {Q : State → Prop}
variable {cc : ByteArray} {pc : Nat} {ls : Array Slot} {rest : List Value} {a b : Nat}
theorem g_iandn (hx : p.tables.exec = Jvm.exec) (hb : c.code = cc) (hdg : decode cc pc = .ok (.iand, 1)) (k : W p l e R s m args below meth c H locs cells slots Q (F0 m (pc + 1) ls (.int (nI (a &&& b)) :: rest))) : W p l e R s m args below meth c H locs cells slots Q (F0 m pc ls (.int (nI b) :: .int (nI a) :: rest)) :=
  lv_iand hx hb hdg (by rw [b_andI]; exact k)
end GB
