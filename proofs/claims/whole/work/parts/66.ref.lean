/-! list -/
def mLisE (K : MS → MS) (s : MS) : MS := if mSee s = 44 then K (mExp (mNx s) 32).2 else s
def mLisD (x : Int32) (K : MS → MS) (s : MS) : MS := if gR s 4 = 0 then (if x = 0 then mLisE K (mThg s) else mLisE K (mReq s)) else s
def mLisC (x : Int32) (K : MS → MS) (s : MS) : MS := if gR s 4 = 0 then (if mSee s = 61 then mLisD x K (wR (mNum (mNx s) 99999).2 31 (mNum (mNx s) 99999).1) else mLisD x K s) else mLisD x K s
def mLisB (x : Int32) (K : MS → MS) (s : MS) : MS := if gR s 3 = gR s 29 then mLisC x K (wR (mWr s (gR s 3)) 31 (-1)) else if gR s 3 - gR s 29 ≤ 30 then mLisC x K (wR s 31 (-1)) else mLisC x K (wR (mWr s (gR s 29)) 31 (-1))
abbrev mLisA (s : MS) : MS := wR s 30 (gR s 3)
abbrev mLisW (s : MS) : MS := wR s 29 (gR s 3)
def mLisL : Nat → Int32 → MS → MS
  | 0, _, s => s
  | k + 1, x, s => if gR s 4 = 0 then mLisB x (fun s => mLisL k x s) (mLisA (mLetL 300 (mLisW s))) else s
abbrev LL : List Nat := [3, 4, 5, 12, 13, 14, 17, 18, 21, 22, 23, 24, 25, 29, 30, 31]
theorem wv_kq {L : List Nat} {s t : MS} (h : Kq L s t) (h1 : 29 ∉ L) (h3 : 30 ∉ L) (hw : wInv s) : wInv t := by
  unfold wInv
  rw [h.2 29 h1, h.2 30 h3]
  exact hw
theorem li_0 {s : MS} (hv : mInv s) : (gR s 1).toInt + 1 ≤ (gR s 3).toInt + ((301 : Nat) : Int) := by
  obtain ⟨h1, h2, h3, -⟩ := hv
  omega
theorem li_1 {s : MS} (hv : mInv s) (h : (gR s 1).toInt + 1 ≤ (gR s 3).toInt + ((0 : Nat) : Int)) : False := by
  obtain ⟨h1, h2, h3, -⟩ := hv
  omega
/-- one more place, and the rest goes on -/
theorem li_2 {s t u : MS} {k : Nat} (hv : mInv t) (ht : ¬ gR t 1 ≤ gR t 3) (h1 : Ad s t) (h2 : Ad (mNx t) u) (hj : (gR s 1).toInt + 1 ≤ (gR s 3).toInt + ((k + 1 : Nat) : Int)) : (gR u 1).toInt + 1 ≤ (gR u 3).toInt + (k : Int) := by
  rw [i_le] at ht
  obtain ⟨a1, a2, a3, -⟩ := hv
  have e1 : (1 : Int32).toInt = 1 := by decide
  have e : (gR (mNx t) 3).toInt = (gR t 3).toInt + 1 := by show (gR t 3 + 1).toInt = _; rw [Int32.toInt_add, e1, Int.bmod_eq_of_le (by omega) (by omega)]
  have q : gR (mNx t) 1 = gR t 1 := rfl
  rw [h2.1, q, h1.1]
  have := h1.2
  have := h2.2
  omega
/-- the WORD's place -/
theorem lw_1 {s t : MS} (hv : mInv s) (ht : mInv t) (h : Ad s t) (e : gR t 29 = gR s 3) : wInv (mLisA t) := by
  obtain ⟨a1, a2, a3, -⟩ := hv
  obtain ⟨b1, b2, b3, -⟩ := ht
  have h2 := h.2
  refine ⟨?_, ?_, ?_⟩
  · show 0 ≤ (gR t 29).toInt; rw [e]; exact a1
  · show (gR t 29).toInt ≤ (gR t 3).toInt; rw [e]; exact h2
  · show (gR t 3).toInt ≤ 300; omega
theorem inv_lisL : ∀ (k : Nat) (x : Int32) (s : MS), mInv s → mInv (mLisL k x s) := by
  intro k
  induction k with
  | zero => intro x s hv; exact hv
  | succ k ih =>
    intro x s hv
    unfold mLisL
    split
    · have h1 : mInv (mLisA (mLetL 300 (mLisW s))) := inv_reg 30 (inv_letL 300 _ (inv_reg 29 hv (by decide) (by decide) (by decide))) (by decide) (by decide) (by decide)
      generalize mLisA (mLetL 300 (mLisW s)) = s1 at h1
      have hE : ∀ t, mInv t → mInv (mLisE (fun s => mLisL k x s) t) := by
        intro t ht
        unfold mLisE
        split
        · rename_i h44
          exact ih _ _ (inv_exp (inv_nx ht (see_lt h44 (by decide))) (by decide))
        · exact ht
      have hD : ∀ t, mInv t → mInv (mLisD x (fun s => mLisL k x s) t) := by
        intro t ht
        unfold mLisD
        split
        · split
          · exact hE _ (inv_kq kq_thg (by decide) (by decide) (by decide) ht)
          · exact hE _ (inv_kq kq_req (by decide) (by decide) (by decide) ht)
        · exact ht
      have hC : ∀ t, mInv t → mInv (mLisC x (fun s => mLisL k x s) t) := by
        intro t ht
        unfold mLisC
        split
        · split
          · rename_i h61
            exact hD _ (inv_reg 31 (inv_num (inv_nx ht (see_lt h61 (by decide)))) (by decide) (by decide) (by decide))
          · exact hD _ ht
        · exact hD _ ht
      unfold mLisB
      split
      · exact hC _ (inv_reg 31 (inv_wr h1) (by decide) (by decide) (by decide))
      · split
        · exact hC _ (inv_reg 31 h1 (by decide) (by decide) (by decide))
        · exact hC _ (inv_reg 31 (inv_wr h1) (by decide) (by decide) (by decide))
    · exact hv
theorem kq_lisL : ∀ (k : Nat) (x : Int32) (s : MS), Kq LL s (mLisL k x s) := by
  intro k
  induction k with
  | zero => intro x s; exact Kq.rf
  | succ k ih =>
    intro x s
    unfold mLisL
    split
    · have h1 : Kq LL s (mLisA (mLetL 300 (mLisW s))) := (Kq.wr (by decide)).tr (((kq_letL 300 _).mono (by decide)).tr (Kq.wr (by decide)))
      generalize mLisA (mLetL 300 (mLisW s)) = s1 at h1
      have hE : ∀ t, Kq LL s t → Kq LL s (mLisE (fun s => mLisL k x s) t) := by
        intro t ht
        unfold mLisE
        split
        · exact ht.tr ((Kq.wr (by decide)).tr ((kq_exp.mono (by decide)).tr (ih _ _)))
        · exact ht
      have hD : ∀ t, Kq LL s t → Kq LL s (mLisD x (fun s => mLisL k x s) t) := by
        intro t ht
        unfold mLisD
        split
        · split
          · exact hE _ (ht.tr (kq_thg.mono (by decide)))
          · exact hE _ (ht.tr (kq_req.mono (by decide)))
        · exact ht
      have hC : ∀ t, Kq LL s t → Kq LL s (mLisC x (fun s => mLisL k x s) t) := by
        intro t ht
        unfold mLisC
        split
        · split
          · exact hD _ (ht.tr ((Kq.wr (by decide)).tr ((kq_num.mono (by decide)).tr (Kq.wr (by decide)))))
          · exact hD _ ht
        · exact hD _ ht
      unfold mLisB
      split
      · exact hC _ (h1.tr ((kq_wr.mono (by decide)).tr (Kq.wr (by decide))))
      · split
        · exact hC _ (h1.tr (Kq.wr (by decide)))
        · exact hC _ (h1.tr ((kq_wr.mono (by decide)).tr (Kq.wr (by decide))))
    · exact Kq.rf
