/-! Math.abs of a double that is no NaN; `below`. -/
section AB
variable {p : Program} {l : Launch} {e : Env} {R : Room} {s : State} {m : MethodId} {args : Array Value} {below : List Frame} {meth : Method} {c : Code} {H : Heap} {locs : List Loc} {cells slots : Nat} {Q : State → Prop}
variable {cc : ByteArray} {pc : Nat} {ls : Array Slot} {rest st : List Value}
theorem l_absd (hx : p.tables.exec = Jvm.exec) (hb : c.code = cc) (hml : c.maxLocals = ls.size) {own : String} {index : Nat} (hown : s.vm.findClass own = some m.cls) (hlink : (Cond.methodLink own index Jvm.Free.Fl.Abs.absDN).before args s = true) (hstat : (Cond.static Jvm.Free.Fl.Abs.absDN).before args s = true) (hini : (Cond.initialized "java/lang/Math").before args s = true) (hcode : (Cond.code Jvm.Free.Fl.Abs.absDN Jvm.Free.Fl.Abs.absDCode 2 (some .double)).before args s = true) {a : UInt64} (ha : vf_n64 a)
    (hfr : 1 ≤ R.frames) (hlo : (rest.map fun v => v.category).sum + 13 ≤ R.locals) (hc : cells ≤ R.cells) (hs : slots ≤ R.slots) (hdg : decode cc pc = .ok (.invokestatic index, 3))
    (kk : W p l e R s m args below meth c H locs cells slots Q (F0 m (pc + 3) ls (.double (a &&& 0x7fffffffffffffff) :: rest))) : W p l e R s m args below meth c H locs cells slots Q (F0 m pc ls (.double a :: rest)) := by
  intro T hT X
  obtain ⟨mk, hnamed⟩ := Cond.code_named hcode
  obtain ⟨methM, cM, hmethM, -, -, -, -, -, -, hsigM⟩ := Cond.code_spec hnamed hcode
  obtain ⟨r2, vm2, ⟨T2, L2, c2, n2⟩, hW2, X2, ⟨hr2, hB2⟩, come⟩ := X.staticBack hx hown hlink hstat hini hnamed hmethM hsigM (by decide)
      (Jvm.Free.Fl.Abs.absD_pays (W := (rest.map fun v => v.category).sum) a hcode hfr hlo) (g := F0 m pc ls (.double a :: rest)) rfl (by rw [hml]) (Steps.refl _) (argsL := [.double a]) (rest := rest)
      (fun sig hs => by rw [show parseMethodDescriptor Jvm.Free.Fl.Abs.absDN.desc = some ⟨[.double], some .double⟩ from by decide +kernel] at hs; rw [← Option.some.inj hs]; rfl) rfl (by show 2 * 0 + _ ≤ _; omega) (by rw [hb]; exact hdg)
      (fun vmx hWx => ⟨hc, hs, rfl, ha⟩)
  simp only [Prod.mk.injEq] at hB2
  obtain ⟨rfl, rfl, rfl, rfl⟩ := hB2
  subst hr2
  obtain ⟨t, a1, b1⟩ := kk (T.setVm vm2) hT X2
  exact ⟨t, come.trans a1, b1⟩
end AB
def blN (v : Int32) (n : Nat) : Nat := (v &&& 2147483647).toNatClampNeg % n
theorem bl_nat (v : Int32) : ∃ X, X < 2 ^ 31 ∧ v &&& 2147483647 = nI X := by
  obtain ⟨X, hX, rfl, _⟩ := b_of v
  refine ⟨X &&& 2147483647, ?_, b_andI X 2147483647⟩
  have h := Nat.and_le_right (n := X) (m := 2147483647)
  omega
theorem bl_lt (v : Int32) {n : Nat} (h : 0 < n) : blN v n < n := Nat.mod_lt _ h
