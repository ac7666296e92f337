theorem ge97 {c : Int32} (h : ¬ c < 97) : ¬ c = -1 := fun q => h (by rw [q]; decide)
theorem kz0 {j k : Nat} (h : j + (k + 1) = 8) (c : 8 ≤ nI (j + 1)) : k = 0 := by
  rcases Nat.eq_zero_or_pos k with q | q
  · exact q
  · exact absurd c (nI_gno (N := 8) rfl (by omega) (by omega))
theorem kz1 {j k : Nat} (h : j + (k + 1) = 8) (c : ¬ 8 ≤ nI (j + 1)) : ¬ k = 0 := fun hk => c (nI_gyes (N := 8) rfl (by omega) (by omega))
def mKeyL : Nat → MS → MS
  | 0, s => s
  | k + 1, s => if gR s 4 = 0 then (if mSee s < 97 then mWr s (gR s 3) else if mSee s ≤ 104 then (if mSee (mNx (wR s 20 (gR s 20 ||| ((1 : Int32) <<< ((mSee s - 97) &&& 31))))) = 32 then (if k = 0 then mNx (wR s 20 (gR s 20 ||| ((1 : Int32) <<< ((mSee s - 97) &&& 31)))) else mKeyL k (mNx (mNx (wR s 20 (gR s 20 ||| ((1 : Int32) <<< ((mSee s - 97) &&& 31))))))) else mNx (wR s 20 (gR s 20 ||| ((1 : Int32) <<< ((mSee s - 97) &&& 31))))) else mWr s (gR s 3)) else s
theorem inv_keyL : ∀ (k : Nat) (s : MS), mInv s → mInv (mKeyL k s) := by
  intro k
  induction k with
  | zero => intro s hv; exact hv
  | succ k ih =>
    intro s hv
    unfold mKeyL
    split
    · split
      · exact inv_wr hv
      · rename_i h97
        split
        · have h2 : mInv (mNx (wR s 20 (gR s 20 ||| ((1 : Int32) <<< ((mSee s - 97) &&& 31))))) := inv_nx (inv_reg 20 hv (by decide) (by decide) (by decide)) (show ¬ gR s 1 ≤ gR s 3 from see_lt rfl (ge97 h97))
          split
          · rename_i h32
            split
            · exact h2
            · exact ih _ (inv_nx h2 (see_lt h32 (by decide)))
          · exact h2
        · exact inv_wr hv
    · exact hv
