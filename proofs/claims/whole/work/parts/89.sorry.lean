theorem Rel.mono {n k : Nat} {d : DS} {s : MS} (h : Rel n d s) (hk : n ≤ k) : Rel k d s := by sorry
theorem rel_T {n : Nat} {d : DS} {s : MS} (h : Rel n d s) : (dT d).2 ≤ 300 ∧ 0 ≤ (dT d).2 ∧ pInv s := by sorry
theorem rel_type {n : Nat} {d : DS} {s : MS} (h : Rel n d s) (q : Int64) (x : Int32) : (fApp (dT d) q x).1 = (mTyp s q x).1 ∧ Rel n (uT d (fApp (dT d) q x).2) (mTyp s q x).2 := by sorry
theorem rel_fault {n : Nat} {d : DS} {s : MS} (h : Rel n d s) : dL d = (mFau s).1 ∧ Rel n d (mFau s).2 := by sorry
theorem rel_told {n : Nat} {d : DS} {s : MS} (h : Rel n d s) (x : Int32) : fTold d x = (mTold s x).1 ∧ Rel n d (mTold s x).2 := by sorry
theorem rel_mat {n : Nat} {d : DS} {s : MS} (h : Rel n d s) (x : Int32) : fMat d x = (mMch s x).1 ∧ Rel n d (mMch s x).2 := by sorry
theorem rel_byt {n : Nat} {d : DS} {s : MS} (h : Rel n d s) (x y : Int32) : fByt d x y = (mByt s x y).1 ∧ Rel n d (mByt s x y).2 := by sorry
theorem rel_read {n : Nat} {d : DS} {s : MS} (h : Rel n d s) (x : Int32) (hn : n < 100000) : ((fRd d x).1 = true → gR (mRead s x).2 0 = 0 ∧ dN (fRd d x).2 = (mRead s x).1 ∧ Rel (n + 1) (fRd d x).2 (mRead s x).2) ∧ ((fRd d x).1 = false → gR (mRead s x).2 0 = 1 ∧ Rel (n + 1) (fRd d x).2 (mRead s x).2) := by sorry
