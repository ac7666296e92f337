/-! the class's read -/
def pS : Nat → Nat
  | 5 => 9
  | 6 => 10
  | 7 => 11
  | 9 => 5
  | 10 => 6
  | 11 => 7
  | n => n
def pC : Nat → Nat
  | 3 => 5
  | 4 => 6
  | 5 => 3
  | 6 => 4
  | n => n
def adS (ad : Nat → Nat) : Nat → Nat := fun k => ad (pS k)
def cdS (cd : Nat → ClassId) : Nat → ClassId := fun k => cd (pC k)
def fRdC (d : DS) (x : Int32) : DS := uL (uT (uS d (fTxt (dT d) (dS d) x).2) ((dT d).1, 0)) (rSk (fTxt (dT d) (dS d) x).2)
def fRdT (d : DS) : DS := uN (uG (uS d (sVr (sVs (dS d) (dG d).1) (dG d).2)) (rVs (dS d), rVr (dS d))) (dN d + 1)
def fRdB (d : DS) (x : Int32) : Bool × DS := if (fTxt (dT d) (dS d) x).1 = true then (true, fRdT (fRdC d x)) else (false, fRdC d x)
def fRd (d : DS) (x : Int32) : Bool × DS := if x = 0 then fRdB d x else if x = 1 then fRdB d x else (false, d)
abbrev nIAE : List String := ["java/lang/RuntimeException", "java/lang/Exception"]
set_option maxRecDepth 100000 in
theorem iae_good : ∀ w ∈ (vx_atS "HeadDesk" 45 tIAE nIAE).filter goodWord, w ∈ aw := by decide +kernel
set_option maxRecDepth 100000 in
theorem iae_bad : ∀ w ∈ (vx_atS "HeadDesk" 45 tIAE nIAE).filter (fun w => !goodWord w), w ∈ [Cond.castable tIAE tIAE, .declares ⟨"java/lang/RuntimeException", "<init>", "(Ljava/lang/String;)V"⟩, .declares ⟨"java/lang/Exception", "<init>", "(Ljava/lang/String;)V"⟩, .declares ⟨"java/lang/Throwable", "<init>", "(Ljava/lang/String;)V"⟩] := by decide +kernel
set_option maxRecDepth 100000 in
theorem iae_ot : ∀ w ∈ Cond.classLink "HeadDesk" 41 tIAE :: Cond.initialized tIAE :: vx_atS "HeadDesk" 45 tIAE nIAE, vx_ot w = true := by decide +kernel
/-- how read ends: with an answer, or thrown -/
abbrev rd_Q (D : va_G) (ad : Nat → Nat) (cd : Nat → ClassId) (d : DS) (x : Int32) (A : Nat → Prop) : Array Value → State → Outcome → State → Prop := va_Qi (fun r (u : DS) => (fRd d x).1 = true ∧ r = dN (fRd d x).2 ∧ u = (fRd d x).2) (fun u t => va_P D vwCl (dkW (adS ad) (cdS cd) u) t.heap ∧ va_D A (dkW (adS ad) (cdS cd) u)) A
abbrev rd_X (D : va_G) (ad : Nat → Nat) (cd : Nat → ClassId) (d : DS) (x : Int32) (A : Nat → Prop) : String → State → State → Prop := vx_X (fun u : DS => (fRd d x).1 = false ∧ u = (fRd d x).2) (fun E u t => E = tIAE ∧ va_P D vwCl (dkW ad cd u) t.heap ∧ va_D A (dkW ad cd u)) A
