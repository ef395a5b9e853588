/-! What the calls of the face answer, told over f. -/
def otF (f : CS) (t : Nat) : Nat → Int32
  | 0 => f 2 t
  | 1 => f 3 t
  | 2 => f 4 t
  | 3 => f 5 t
  | 4 => nI (pcn (f 6 t))
  | 5 => nI (pcn (f 7 t))
  | 6 => if f 5 t = nI 3 then f 8 t else -1
  | _ => nI (usN f (bit t))
def ocF (f : CS) (c : Nat) : Nat → Int32
  | 0 => f 1 c
  | 1 => nI (pcn (ofC f (nI c)))
  | 2 => prI f (nI c) (nI 0)
  | 3 => prI f (nI c) (nI 1)
  | 4 => prI f (nI c) (nI 2)
  | 5 => nI (usN f (ofC f (nI c)))
  | _ => nI (dwN f (ofC f (nI c)))
def oxF (f : CS) (t : Nat) : Nat → Int32
  | 0 => nI (nL f t)
  | 1 => f 12 t
  | 2 => nI (uA f t (-1))
  | 3 => nI (uI f t (nI 3))
  | 4 => fbI f t
  | 5 => nI (csN f t)
  | _ => nI (amN f t)
def maF (f : CS) : Nat → Int32
  | 0 => nI (nC f)
  | 1 => nI (ct (fun c => decide (¬ ofC f (nI c) = 0)) (nC f))
  | 2 => nI (nT f)
  | 3 => nI (ct (fun t => decide (f 5 t = nI 0)) (nT f))
  | 4 => nI (ct (fun t => decide (f 5 t = nI 1)) (nT f))
  | 5 => nI (ct (fun t => decide (f 5 t = nI 2)) (nT f))
  | 6 => nI (ct (fun t => decide (f 5 t = nI 3)) (nT f))
  | 7 => nI (nD f)
  | 8 => nI (tsN f (nI 0))
  | 9 => nI (tsN f (nI 1))
  | 10 => nI (tsN f (nI 2))
  | 11 => nI (usN f (-1))
  | _ => f 0 3
def rbF (f : CS) (t : Nat) : Int32 := if canB f t then nI (roN f (bit t)) else nI 0
def riF (f : CS) (k : Nat) : Int32 := nI (roN f (due f (f 0 3 + nI k)))
def cyF (f : CS) (a b : Nat) : Int32 := if canJ f (nI a) (nI b) then nI (chN f (nI (if a < b then b else a)) (nI (if b < a then b else a))) else -1
def ffF (f : CS) (t p k : Nat) : Int32 := if useF f t p (f 4 k * nI 4) (-1) (-1) = nI k then f 4 k * nI 4 else -1
def dgl (g : Nat → Int32) (d : Int64) : Nat → Int64
  | 0 => d
  | n + 1 => dgl g d n * 31 + (g n).toInt64
def dgT (f : CS) (d : Int64) : Nat → Int64
  | 0 => d
  | n + 1 => dgl (otF f n) (dgT f d n) 8 * 31 + (rbF f n).toInt64
def dgC (f : CS) (d : Int64) : Nat → Int64
  | 0 => d
  | n + 1 => dgl (ocF f n) (dgC f d n) 7
def dgX (f : CS) (d : Int64) : Nat → Int64
  | 0 => d
  | n + 1 => dgl (f (40 + n)) (dgl (oxF f n) (dgX f d n) 7) (nL f n)
def dig (f : CS) : Int64 := dgl (fun d => nI (agN f d)) (dgX f (dgC f (dgT f (dgl (maF f) 58116 13) (nT f)) (nC f)) (nD f * 3)) (nD f) * 31 + (riF f 10).toInt64
