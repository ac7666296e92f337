/-! THE TWO STATES: the class's and the reference's -/
/-- what is kept of a good TEXT -/
def Vk (v r : Nat → Int32) (s : MS) : Prop := (∀ i : Nat, i < 18 → v i = gKp s i) ∧ (∃ n : Nat, n ≤ 8 ∧ v 7 = nI n ∧ gR s 27 = nI n ∧ ∀ i : Nat, i < n → r i = gKm s i) ∧ (gKp s 3 = 0 ∨ gKp s 3 = 1 ∨ gKp s 3 = 2 ∨ gKp s 3 = 3) ∧ (gKp s 3 ≠ 0 → 0 ≤ (gKp s 4).toInt ∧ (gKp s 4).toInt ≤ 99999) ∧ (gKp s 3 = 1 → 0 ≤ (gKp s 5).toInt ∧ (gKp s 5).toInt ≤ 99999)
def Rel (n : Nat) (d : DS) (s : MS) : Prop := pInv s ∧ (dT d).2 = gR s 1 ∧ (∀ i : Nat, (i : Int) < (gR s 1).toInt → (dT d).1 i = gTp s i) ∧ dN d = gR s 28 ∧ 0 ≤ (gR s 28).toInt ∧ (gR s 28).toInt ≤ (n : Int) ∧ dL d = gR s 2 ∧ (gR s 28 ≠ 0 → Vk (dG d).1 (dG d).2 s)
