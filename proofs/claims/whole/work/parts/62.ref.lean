/-! a NAME -/
def mLetL : Nat → MS → MS
  | 0, s => s
  | k + 1, s => if isL (mSee s) = true then mLetL k (mNx s) else s
def mDup (s : MS) (fr : Int32) : Nat → Nat → Bool
  | 0, _ => false
  | r + 1, i => if mSame (gTp s) (gNf s i) (gNt s i) fr (gR s 3) = true then true else mDup s fr r (i + 1)
abbrev mAddN (s : MS) (fr : Int32) : MS := mNx (wR (wNt (wNf s (upd (gNf s) (gR s 26).toNatClampNeg fr)) (upd (gNt s) (gR s 26).toNatClampNeg (gR s 3))) 26 (gR s 26 + 1))
def mNamG (s : MS) : Bool × MS := if mSee s = 32 then (true, mNx s) else (true, s)
def mNamF (s : MS) (fr : Int32) : Bool × MS := if mDup s fr (gR s 26).toNatClampNeg 0 = true then (false, mWr s fr) else mNamG (mAddN s fr)
def mNamE (s : MS) (fr : Int32) : Bool × MS := if gR s 3 = fr then (false, mWr s (gR s 3)) else if gR s 3 - fr ≤ 20 then (if mSee s = 58 then mNamF s fr else (false, mWr s (gR s 3))) else (false, mWr s fr)
def mNam (s : MS) : Bool × MS := mNamE (mLetL 300 s) (gR s 3)
theorem inv_letL : ∀ (k : Nat) (s : MS), mInv s → mInv (mLetL k s) := by
  intro k
  induction k with
  | zero => intro s hv; exact hv
  | succ k ih =>
    intro s hv
    unfold mLetL
    split
    · rename_i h
      exact ih _ (inv_nx hv (see_lt rfl (isL_ne h)))
    · exact hv
/-- at least so far, and at most to the tape's end -/
theorem sp_at {s : MS} {fr : Int32} (hv : mInv s) (h0 : 0 ≤ fr.toInt) (h : fr.toInt ≤ (gR s 3).toInt) : sp_ok fr (gR s 3) := by
  obtain ⟨h1, h2, h3, -⟩ := hv
  exact ⟨h0, h, by omega⟩
theorem sp_nm {s : MS} {i : Nat} (hv : mInv s) (h : (i : Int) < (gR s 26).toInt) : sp_ok (gNf s i) (gNt s i) := by
  obtain ⟨h1, h2, h3, h4, h5, h6⟩ := hv
  have q := h6 i h
  exact ⟨q.1, q.2.1, by have := q.2.2; omega⟩
theorem at_up {s : MS} {f : Int32} (hv : mInv s) (hs : ¬ gR s 1 ≤ gR s 3) (h : f.toInt ≤ (gR s 3).toInt) : f.toInt ≤ (gR s 3 + 1).toInt := by
  rw [i_le] at hs
  obtain ⟨h1, h2, h3, -⟩ := hv
  have e1 : (1 : Int32).toInt = 1 := by decide
  rw [Int32.toInt_add, e1, Int.bmod_eq_of_le (by omega) (by omega)]
  omega
theorem nm_lt {s : MS} {j : Nat} (hv : mInv s) (hj : j < (gR s 26).toNatClampNeg) : j < 150 ∧ (j : Int) < (gR s 26).toInt := by
  obtain ⟨h1, h2, h3, h4, h5, h6⟩ := hv
  have q : j < (gR s 26).toInt.toNat := hj
  omega
theorem nm_st {s : MS} {f : Int32} (hv : mInv s) (hge : f.toInt ≤ (gR s 3).toInt) (hnm : 2 * (gR s 26).toInt ≤ f.toInt) (hne : ¬ gR s 3 = f) : vp_in (gR s 26) 150 := by
  rw [← Int32.toInt_inj] at hne
  obtain ⟨h1, h2, h3, h4, h5, h6⟩ := hv
  exact vp_in_iff.mpr ⟨h4, by omega⟩
theorem inv_add {s : MS} {f : Int32} (hv : mInv s) (h0 : 0 ≤ f.toInt) (hge : f.toInt ≤ (gR s 3).toInt) (hnm : 2 * (gR s 26).toInt ≤ f.toInt) (hne : ¬ gR s 3 = f) (hs : ¬ gR s 1 ≤ gR s 3) : mInv (mAddN s f) := by
  rw [← Int32.toInt_inj] at hne
  rw [i_le] at hs
  obtain ⟨h1, h2, h3, h4, h5, h6⟩ := hv
  have e1 : (1 : Int32).toInt = 1 := by decide
  have ea : (gR s 3 + 1).toInt = (gR s 3).toInt + 1 := by rw [Int32.toInt_add, e1, Int.bmod_eq_of_le (by omega) (by omega)]
  have en : (gR s 26 + 1).toInt = (gR s 26).toInt + 1 := by rw [Int32.toInt_add, e1, Int.bmod_eq_of_le (by omega) (by omega)]
  refine ⟨?_, ?_, h3, ?_, ?_, ?_⟩
  · show 0 ≤ (gR s 3 + 1).toInt; omega
  · show (gR s 3 + 1).toInt ≤ (gR s 1).toInt; omega
  · show 0 ≤ (gR s 26 + 1).toInt; omega
  · show 2 * (gR s 26 + 1).toInt ≤ (gR s 3 + 1).toInt; omega
  · intro k hk
    have hk2 : (k : Int) < (gR s 26 + 1).toInt := hk
    show 0 ≤ (upd (gNf s) (gR s 26).toNatClampNeg f k).toInt ∧ (upd (gNf s) (gR s 26).toNatClampNeg f k).toInt ≤ (upd (gNt s) (gR s 26).toNatClampNeg (gR s 3) k).toInt ∧ (upd (gNt s) (gR s 26).toNatClampNeg (gR s 3) k).toInt ≤ (gR s 1).toInt
    by_cases q : k = (gR s 26).toNatClampNeg
    · subst q
      rw [pk_us, pk_us]
      exact ⟨h0, hge, h2⟩
    · rw [pk_un q, pk_un q]
      have qq : ¬ k = (gR s 26).toInt.toNat := q
      exact h6 k (by omega)
theorem letL_keep : ∀ (k : Nat) (s : MS), mInv s → (gR s 3).toInt ≤ (gR (mLetL k s) 3).toInt ∧ gR (mLetL k s) 26 = gR s 26 ∧ gR (mLetL k s) 4 = gR s 4 := by
  intro k
  induction k with
  | zero => intro s _; exact ⟨Int.le_refl _, rfl, rfl⟩
  | succ k ih =>
    intro s hv
    unfold mLetL
    split
    · rename_i h
      have hs := see_lt rfl (isL_ne h)
      obtain ⟨q1, q2, q3⟩ := ih _ (inv_nx hv hs)
      exact ⟨Int.le_trans (at_up hv hs (Int.le_refl _)) q1, q2, q3⟩
    · exact ⟨Int.le_refl _, rfl, rfl⟩
theorem inv_nam {s : MS} (hv : mInv s) : mInv (mNam s).2 := by
  obtain ⟨q1, q2, -⟩ := letL_keep 300 s hv
  have h := inv_letL 300 s hv
  have h0 : 0 ≤ (gR s 3).toInt := hv.1
  have hn : 2 * (gR (mLetL 300 s) 26).toInt ≤ (gR s 3).toInt := by rw [q2]; exact hv.2.2.2.2.1
  unfold mNam
  generalize mLetL 300 s = s1 at q1 h hn
  unfold mNamE
  split
  · exact inv_wr h
  · rename_i hne
    split
    · split
      · rename_i h58
        unfold mNamF
        split
        · exact inv_wr h
        · have ha : mInv (mAddN s1 (gR s 3)) := inv_add h h0 q1 hn hne (see_lt h58 (by decide))
          generalize mAddN s1 (gR s 3) = s2 at ha
          unfold mNamG
          split
          · rename_i h32
            exact inv_nx ha (see_lt h32 (by decide))
          · exact ha
      · exact inv_wr h
    · exact inv_wr h
