/-- the latest NAME's place -/
def nA (s : MS) : Int32 := gNf s (gR s 26 - 1).toNatClampNeg
def nB (s : MS) : Int32 := gNt s (gR s 26 - 1).toNatClampNeg
def mNamed (s : MS) (w : List Int32) : Bool := if nB s - nA s = nI w.length then wEqM (gTp s) (nA s) w 0 else false
theorem nm_pr {s : MS} (hv : mInv s) (hn : 1 ≤ (gR s 26).toInt) : (gR s 26 - 1).toInt = (gR s 26).toInt - 1 := by
  obtain ⟨h1, h2, h3, h4, h5, h6⟩ := hv
  have e1 : (1 : Int32).toInt = 1 := by decide
  rw [Int32.toInt_sub, e1, Int.bmod_eq_of_le (by omega) (by omega)]
theorem nm_in {s : MS} (hv : mInv s) (hn : 1 ≤ (gR s 26).toInt) : vp_in (gR s 26 - 1) 150 := by
  have e := nm_pr hv hn
  obtain ⟨h1, h2, h3, h4, h5, h6⟩ := hv
  exact vp_in_iff.mpr ⟨by omega, by omega⟩
theorem nm_ok {s : MS} (hv : mInv s) (hn : 1 ≤ (gR s 26).toInt) : sp_ok (nA s) (nB s) := by
  have e := nm_pr hv hn
  obtain ⟨h1, h2, h3, h4, h5, h6⟩ := hv
  have q := h6 (gR s 26 - 1).toInt.toNat (by omega)
  exact ⟨q.1, q.2.1, by have := q.2.2; show (gNt s (gR s 26 - 1).toInt.toNat).toInt ≤ 300; omega⟩
theorem nd_in {s : MS} {n j : Nat} (hv : mInv s) (hn : 1 ≤ (gR s 26).toInt) (h : nB s - nA s = nI n) (hj : j < n) (hl : n < 100) : vp_in (nA s + nI j) 300 := by
  refine sm_in (nm_ok hv hn) ?_
  rw [h, nI_clamp (by omega)]
  exact hj
