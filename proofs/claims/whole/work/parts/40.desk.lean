/-- the desk: the tape, the reader, the good head, how many good TEXTS, the latest fault -/
abbrev DS : Type := TX × RS × ((Nat → Int32) × (Nat → Int32)) × Int32 × Int32
def dT (d : DS) : TX := d.1
def dS (d : DS) : RS := d.2.1
def dG (d : DS) : (Nat → Int32) × (Nat → Int32) := d.2.2.1
def dN (d : DS) : Int32 := d.2.2.2.1
def dL (d : DS) : Int32 := d.2.2.2.2
def uT (d : DS) (x : TX) : DS := (x, d.2)
def uS (d : DS) (x : RS) : DS := (d.1, x, d.2.2)
def uG (d : DS) (x : (Nat → Int32) × (Nat → Int32)) : DS := (d.1, d.2.1, x, d.2.2.2)
def uN (d : DS) (x : Int32) : DS := (d.1, d.2.1, d.2.2.1, x, d.2.2.2.2)
def uL (d : DS) (x : Int32) : DS := (d.1, d.2.1, d.2.2.1, d.2.2.2.1, x)
def fTold (d : DS) (x : Int32) : Int32 := if dN d = 0 then -1 else hGet (dG d).1 x
def fMat (d : DS) (x : Int32) : Bool := if dN d ≤ 0 then false else if hCov (dG d).1 (dG d).2 x = true then true else false
abbrev byM (d : DS) (len : Int32) : Int32 := iMax 0 (hLst (dG d).1 len - hFst (dG d).1 len + 1)
def fByt (d : DS) (len what : Int32) : Int32 := if dN d = 0 then -1 else if len < 0 then -1 else if len ≤ 255 then (if what = 0 then (if byM d len = 0 then -1 else hFst (dG d).1 len) else if what = 1 then (if byM d len = 0 then -1 else hLst (dG d).1 len) else if what = 2 then byM d len else -1) else -1
theorem tb13 {x : Int32} (h1 : ¬ x = 1) (h2 : ¬ x = 2) (h3 : ¬ x = 3) : x.toInt < 1 ∨ 3 < x.toInt := by
  rw [← Int32.toInt_inj] at h1 h2 h3
  have e1 : (1 : Int32).toInt = 1 := by decide
  have e2 : (2 : Int32).toInt = 2 := by decide
  have e3 : (3 : Int32).toInt = 3 := by decide
  omega
theorem tb02 {x : Int32} (h1 : ¬ x = 0) (h2 : ¬ x = 1) (h3 : ¬ x = 2) : x.toInt < 0 ∨ 2 < x.toInt := by
  rw [← Int32.toInt_inj] at h1 h2 h3
  have e1 : (0 : Int32).toInt = 0 := by decide
  have e2 : (1 : Int32).toInt = 1 := by decide
  have e3 : (2 : Int32).toInt = 2 := by decide
  omega
def dkW (ad : Nat → Nat) (cd : Nat → ClassId) (d : DS) : va_W := [(ad 8, .inr (3, [.ref (ad 0), .ref (ad 1), .ref (ad 9), .int (dN d), .int (dL d)])), (ad 0, .inr (1, [.ref (ad 1), .ref (ad 3), .ref (ad 4), .ref (ad 5), .int (rNm (dS d)), .int (rKd (dS d)), .int (rPl (dS d)), .int (rSk (dS d)), .int (rNb (dS d)), .int (rWs (dS d)), .int (rWe (dS d))])), (ad 1, .inr (2, [.ref (ad 2), .int ((dT d).2)])), (ad 2, .inl (cd 0, 300, .inl ((dT d).1))), (ad 3, .inl (cd 1, 100, .inl (rNs (dS d)))), (ad 4, .inl (cd 2, 100, .inl (rNe (dS d)))), (ad 5, .inr (0, [.ref (ad 6), .ref (ad 7)])), (ad 6, .inl (cd 3, 18, .inl (rVs (dS d)))), (ad 7, .inl (cd 4, 8, .inl (rVr (dS d)))), (ad 9, .inr (0, [.ref (ad 10), .ref (ad 11)])), (ad 10, .inl (cd 5, 18, .inl ((dG d).1))), (ad 11, .inl (cd 6, 8, .inl ((dG d).2)))]
