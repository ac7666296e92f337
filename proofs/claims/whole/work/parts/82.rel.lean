/-! THE TWO STATES: the class's and the reference's -/
/-- what is kept of a good TEXT -/
def Vk (v r : Nat → Int32) (s : MS) : Prop := (∀ i : Nat, i < 18 → v i = gKp s i) ∧ (∃ n : Nat, n ≤ 8 ∧ v 7 = nI n ∧ gR s 27 = nI n ∧ ∀ i : Nat, i < n → r i = gKm s i) ∧ (gKp s 3 = 0 ∨ gKp s 3 = 1 ∨ gKp s 3 = 2 ∨ gKp s 3 = 3) ∧ (gKp s 3 ≠ 0 → 0 ≤ (gKp s 4).toInt ∧ (gKp s 4).toInt ≤ 99999) ∧ (gKp s 3 = 1 → 0 ≤ (gKp s 5).toInt ∧ (gKp s 5).toInt ≤ 99999)
