/-- a word's place on the tape -/
def wInv (s : MS) : Prop := 0 ≤ (gR s 29).toInt ∧ (gR s 29).toInt ≤ (gR s 30).toInt ∧ (gR s 30).toInt ≤ 300
def wEqM (t : Nat → Int32) (a : Int32) : List Int32 → Nat → Bool
  | [], _ => true
  | c :: cs, j => if t (a + nI j).toNatClampNeg = c then wEqM t a cs (j + 1) else false
def mIsW (s : MS) (w : List Int32) : Bool := if gR s 30 - gR s 29 = nI w.length then wEqM (gTp s) (gR s 29) w 0 else false
theorem wd_in {s : MS} {n j : Nat} (hw : wInv s) (h : gR s 30 - gR s 29 = nI n) (hj : j < n) (hn : n < 100) : vp_in (gR s 29 + nI j) 300 := by
  obtain ⟨h1, h2, h3⟩ := hw
  have e : (gR s 30 - gR s 29).toInt = (gR s 30).toInt - (gR s 29).toInt := by rw [Int32.toInt_sub, Int.bmod_eq_of_le (by omega) (by omega)]
  rw [h, nI_toInt (by omega)] at e
  have e2 : (gR s 29 + nI j).toInt = (gR s 29).toInt + j := by rw [Int32.toInt_add, nI_toInt (by omega), Int.bmod_eq_of_le (by omega) (by omega)]
  exact vp_in_iff.mpr ⟨by omega, by omega⟩
/-- two places on the tape, in order -/
def sp_ok (a b : Int32) : Prop := 0 ≤ a.toInt ∧ a.toInt ≤ b.toInt ∧ b.toInt ≤ 300
theorem sm_in {a b : Int32} {j : Nat} (h : sp_ok a b) (hj : j < (b - a).toNatClampNeg) : vp_in (a + nI j) 300 := by
  obtain ⟨h1, h2, h3⟩ := h
  have e : (b - a).toInt = b.toInt - a.toInt := by rw [Int32.toInt_sub, Int.bmod_eq_of_le (by omega) (by omega)]
  have hj' : j < (b - a).toInt.toNat := hj
  rw [e] at hj'
  have e2 : (a + nI j).toInt = a.toInt + j := by rw [Int32.toInt_add, nI_toInt (by omega), Int.bmod_eq_of_le (by omega) (by omega)]
  exact vp_in_iff.mpr ⟨by omega, by omega⟩
def eqM (t : Nat → Int32) (a c : Int32) : Nat → Nat → Bool
  | 0, _ => true
  | k + 1, j => if t (a + nI j).toNatClampNeg = t (c + nI j).toNatClampNeg then eqM t a c k (j + 1) else false
def mSame (t : Nat → Int32) (a b c d : Int32) : Bool := if b - a = d - c then eqM t a c (b - a).toNatClampNeg 0 else false
