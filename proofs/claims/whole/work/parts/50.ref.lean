/-! THE REFERENCE AS PURE FUNCTIONS: registers by number, and six rows -/
/-- registers (0 thrown, 1 taped, 2 fault, 3 at, 4 bad, 5 badPlace, 6 path, 7 variant, 8 rangeKind, 9 rangeA, 10 rangeB, 11 matches, 12 maxAge, 13 maxStale, 14 minFresh, 15 isHead, 16 star, 17 noCache, 18 onlyIfCached, 19 length, 20 keyMask, 21 live, 22 ifError, 23 ifLate, 24 noStore, 25 thingNoCache, 26 names, 27 keptMatches, 28 good, 29 wordFrom, 30 wordTo, 31 wordNumber), tape, match, nameFrom, nameTo, kept, keptMatch -/
abbrev MS : Type := (Nat → Int32) × (Nat → Int32) × (Nat → Int32) × (Nat → Int32) × (Nat → Int32) × (Nat → Int32) × (Nat → Int32)
def gR (s : MS) (k : Nat) : Int32 := s.1 k
def gTp (s : MS) : Nat → Int32 := s.2.1
def gMt (s : MS) : Nat → Int32 := s.2.2.1
def gNf (s : MS) : Nat → Int32 := s.2.2.2.1
def gNt (s : MS) : Nat → Int32 := s.2.2.2.2.1
def gKp (s : MS) : Nat → Int32 := s.2.2.2.2.2.1
def gKm (s : MS) : Nat → Int32 := s.2.2.2.2.2.2
def wR (s : MS) (k : Nat) (x : Int32) : MS := (upd s.1 k x, s.2)
def wTp (s : MS) (x : Nat → Int32) : MS := (s.1, x, s.2.2)
def wMt (s : MS) (x : Nat → Int32) : MS := (s.1, s.2.1, x, s.2.2.2)
def wNf (s : MS) (x : Nat → Int32) : MS := (s.1, s.2.1, s.2.2.1, x, s.2.2.2.2)
def wNt (s : MS) (x : Nat → Int32) : MS := (s.1, s.2.1, s.2.2.1, s.2.2.2.1, x, s.2.2.2.2.2)
def wKp (s : MS) (x : Nat → Int32) : MS := (s.1, s.2.1, s.2.2.1, s.2.2.2.1, s.2.2.2.2.1, x, s.2.2.2.2.2.2)
def wKm (s : MS) (x : Nat → Int32) : MS := (s.1, s.2.1, s.2.2.1, s.2.2.2.1, s.2.2.2.2.1, s.2.2.2.2.2.1, x)
def bnM (x : Bool × MS) (k : MS → Bool × MS) : Bool × MS := match x.1 with
  | true => k x.2
  | false => (false, x.2)
theorem bnM_t {x : Bool × MS} {k : MS → Bool × MS} (h : x.1 = true) : bnM x k = k x.2 := by rw [bnM, h]
theorem bnM_f {x : Bool × MS} {k : MS → Bool × MS} (h : x.1 = false) : bnM x k = (false, x.2) := by rw [bnM, h]
/-- what holds of the reference's numbers all the time -/
def mInv (s : MS) : Prop := 0 ≤ (gR s 3).toInt ∧ (gR s 3).toInt ≤ (gR s 1).toInt ∧ (gR s 1).toInt ≤ 300 ∧ 0 ≤ (gR s 26).toInt ∧ 2 * (gR s 26).toInt ≤ (gR s 3).toInt ∧ ∀ k : Nat, (k : Int) < (gR s 26).toInt → 0 ≤ (gNf s k).toInt ∧ (gNf s k).toInt ≤ (gNt s k).toInt ∧ (gNt s k).toInt ≤ (gR s 1).toInt
def mSee (s : MS) : Int32 := if gR s 1 ≤ gR s 3 then -1 else gTp s (gR s 3).toNatClampNeg
def mWr (s : MS) (p : Int32) : MS := if gR s 4 = 0 then wR (wR s 4 1) 5 p else s
abbrev mNx (s : MS) : MS := wR s 3 (gR s 3 + 1)
def mExp (s : MS) (c : Int32) : Bool × MS := if gR s 4 = 0 then (if mSee s = c then (true, mNx s) else (false, mWr s (gR s 3))) else (false, s)
def mWord : List Int32 → MS → Bool × MS
  | [], s => (true, s)
  | c :: cs, s => bnM (mExp s c) (fun s => mWord cs s)
def mNumL (fr : Int32) : Nat → MS → Int32 → MS × Int32
  | 0, s, v => (s, v)
  | k + 1, s, v => if isD (mSee s) = true then mNumL fr k (mNx s) (10 * v + mSee s - 48) else (s, v)
def mNumA (s : MS) (fr : Int32) : MS := if gR s 3 = fr then mWr s (gR s 3) else s
def mNumB (s : MS) (v fr most : Int32) : MS := if v ≤ most then s else mWr s fr
def mNumC (s : MS) (v : Int32) : Int32 × MS := if gR s 4 = 0 then (v, s) else (-1, s)
def mNumE (q : MS × Int32) (fr most : Int32) : Int32 × MS := mNumC (mNumB (mNumA q.1 fr) q.2 fr most) q.2
def mNum (s : MS) (most : Int32) : Int32 × MS := if gR s 4 = 0 then mNumE (mNumL (gR s 3) 5 s 0) (gR s 3) most else (-1, s)
theorem see_in {s : MS} (hv : mInv s) (h : ¬ gR s 1 ≤ gR s 3) : vp_in (gR s 3) 300 := by
  rw [i_le] at h
  obtain ⟨h1, h2, h3, -⟩ := hv
  exact vp_in_iff.mpr ⟨h1, by omega⟩
theorem inv_nx {s : MS} (hv : mInv s) (h : ¬ gR s 1 ≤ gR s 3) : mInv (mNx s) := by
  rw [i_le] at h
  obtain ⟨h1, h2, h3, h4, h5, h6⟩ := hv
  have e1 : (1 : Int32).toInt = 1 := by decide
  have e : (gR s 3 + 1).toInt = (gR s 3).toInt + 1 := by rw [Int32.toInt_add, e1, Int.bmod_eq_of_le (by omega) (by omega)]
  refine ⟨?_, ?_, h3, h4, ?_, h6⟩
  · show 0 ≤ (gR s 3 + 1).toInt; omega
  · show (gR s 3 + 1).toInt ≤ (gR s 1).toInt; omega
  · show 2 * (gR s 26).toInt ≤ (gR s 3 + 1).toInt; omega
theorem see_lt {s : MS} {c : Int32} (h : mSee s = c) (hc : ¬ c = -1) : ¬ gR s 1 ≤ gR s 3 := by
  intro q
  rw [mSee, if_pos q] at h
  exact hc h.symm
theorem isD_ne {c : Int32} (h : isD c = true) : ¬ c = -1 := by
  intro q
  rw [q] at h
  exact absurd h (by decide)
theorem isL_ne {c : Int32} (h : isL c = true) : ¬ c = -1 := by
  intro q
  rw [q] at h
  exact absurd h (by decide)
theorem inv_wr {s : MS} {p : Int32} (hv : mInv s) : mInv (mWr s p) := by
  unfold mWr
  split
  · exact hv
  · exact hv
theorem inv_exp {s : MS} {c : Int32} (hv : mInv s) (hc : ¬ c = -1) : mInv (mExp s c).2 := by
  unfold mExp
  split
  · split
    · rename_i h
      exact inv_nx hv (see_lt h hc)
    · exact inv_wr hv
  · exact hv
theorem inv_bnM {x : Bool × MS} {k : MS → Bool × MS} (h1 : mInv x.2) (h2 : ∀ s, mInv s → mInv (k s).2) : mInv (bnM x k).2 := by
  unfold bnM
  cases x.1 with
  | true => exact h2 _ h1
  | false => exact h1
theorem inv_word : ∀ (w : List Int32) (s : MS), (∀ c ∈ w, ¬ c = -1) → mInv s → mInv (mWord w s).2 := by
  intro w
  induction w with
  | nil => intro s _ hv; exact hv
  | cons c cs ih => intro s hw hv; exact inv_bnM (inv_exp hv (hw c List.mem_cons_self)) (fun s1 h1 => ih s1 (fun c hc => hw c (List.mem_cons_of_mem _ hc)) h1)
theorem inv_numL {fr : Int32} : ∀ (k : Nat) (s : MS) (v : Int32), mInv s → mInv (mNumL fr k s v).1 := by
  intro k
  induction k with
  | zero => intro s v hv; exact hv
  | succ k ih =>
    intro s v hv
    unfold mNumL
    split
    · rename_i h
      exact ih _ _ (inv_nx hv (see_lt rfl (isD_ne h)))
    · exact hv
theorem inv_numC {s : MS} {v : Int32} (hv : mInv s) : mInv (mNumC s v).2 := by unfold mNumC; split <;> exact hv
theorem inv_numB {s : MS} {v fr most : Int32} (hv : mInv s) : mInv (mNumB s v fr most) := by
  unfold mNumB; split
  · exact hv
  · exact inv_wr hv
theorem inv_numA {s : MS} {fr : Int32} (hv : mInv s) : mInv (mNumA s fr) := by
  unfold mNumA; split
  · exact inv_wr hv
  · exact hv
theorem inv_num {s : MS} {most : Int32} (hv : mInv s) : mInv (mNum s most).2 := by
  unfold mNum
  split
  · exact inv_numC (inv_numB (inv_numA (inv_numL 5 s 0 hv)))
  · exact hv
theorem sw_ne : ∀ i, i < nJS → ∀ c ∈ sw i, ¬ c = -1 := by decide +kernel
/-- how far the loop of number is -/
theorem nm_d0 {a f : Int32} (h : a.toInt = f.toInt + 5) : 5 ≤ a - f := by
  have e5 : (5 : Int32).toInt = 5 := by decide
  rw [i_le, Int32.toInt_sub, e5, h, show f.toInt + 5 - f.toInt = 5 by omega]
  decide
theorem nm_d1 {a f : Int32} {k : Nat} (h : a.toInt + ((k + 1 : Nat) : Int) = f.toInt + 5) (hk : k < 5) : ¬ 5 ≤ a - f := by
  have e5 : (5 : Int32).toInt = 5 := by decide
  rw [i_le, Int32.toInt_sub, e5, show a.toInt - f.toInt = 4 - (k : Int) by omega, Int.bmod_eq_of_le (by omega) (by omega)]
  omega
theorem nm_dn {s : MS} {f : Int32} {k : Nat} (hv : mInv s) (hs : ¬ gR s 1 ≤ gR s 3) (h : (gR s 3).toInt + ((k + 1 : Nat) : Int) = f.toInt + 5) : (gR s 3 + 1).toInt + (k : Int) = f.toInt + 5 := by
  rw [i_le] at hs
  obtain ⟨h1, h2, h3, -⟩ := hv
  have e1 : (1 : Int32).toInt = 1 := by decide
  rw [Int32.toInt_add, e1, Int.bmod_eq_of_le (by omega) (by omega)]
  omega
def mTgtC (s : MS) : MS := (mExp s 10).2
def mTgtB (s : MS) (x : Int32) : MS := if gR s 4 = 0 then (if x = 0 then mTgtC s else if mSee s = 47 then mTgtC (wR (mNum (mNx s) 3).2 7 (mNum (mNx s) 3).1) else mTgtC s) else mTgtC s
def mTgt (s : MS) (x : Int32) : MS := mTgtB (wR (wR (mNum (mExp (mExp s 32).2 47).2 31).2 6 (mNum (mExp (mExp s 32).2 47).2 31).1) 7 0) x
theorem inv_tgtC {s : MS} (hv : mInv s) : mInv (mTgtC s) := inv_exp hv (by decide)
theorem inv_tgtB {s : MS} {x : Int32} (hv : mInv s) : mInv (mTgtB s x) := by
  unfold mTgtB
  split
  · split
    · exact inv_tgtC hv
    · split
      · rename_i h
        exact inv_tgtC (show mInv (wR _ _ _) from inv_num (inv_nx hv (see_lt h (by decide))))
      · exact inv_tgtC hv
  · exact inv_tgtC hv
theorem inv_tgt {s : MS} {x : Int32} (hv : mInv s) : mInv (mTgt s x) := inv_tgtB (show mInv (wR (wR _ _ _) _ _) from inv_num (inv_exp (inv_exp hv (by decide)) (by decide)))
def mAnyL : Nat → MS → MS
  | 0, s => s
  | k + 1, s => if mSee s = 10 then s else if gR s 1 ≤ gR s 3 then s else mAnyL k (mNx s)
theorem inv_anyL : ∀ (k : Nat) (s : MS), mInv s → mInv (mAnyL k s) := by
  intro k
  induction k with
  | zero => intro s hv; exact hv
  | succ k ih =>
    intro s hv
    unfold mAnyL
    split
    · exact hv
    · split
      · exact hv
      · rename_i h
        exact ih _ (inv_nx hv h)
theorem an_0 {s : MS} (hv : mInv s) : (gR s 1).toInt ≤ (gR s 3).toInt + ((300 : Nat) : Int) := by
  obtain ⟨h1, h2, h3, -⟩ := hv
  omega
theorem an_1 {s : MS} {k : Nat} (hv : mInv s) (h : ¬ gR s 1 ≤ gR s 3) (hj : (gR s 1).toInt ≤ (gR s 3).toInt + ((k + 1 : Nat) : Int)) : (gR (mNx s) 1).toInt ≤ (gR (mNx s) 3).toInt + (k : Int) := by
  rw [i_le] at h
  obtain ⟨h1, h2, h3, -⟩ := hv
  have e1 : (1 : Int32).toInt = 1 := by decide
  show (gR s 1).toInt ≤ (gR s 3 + 1).toInt + (k : Int)
  rw [Int32.toInt_add, e1, Int.bmod_eq_of_le (by omega) (by omega)]
  omega
theorem an_2 {s : MS} (hj : (gR s 1).toInt ≤ (gR s 3).toInt + ((0 : Nat) : Int)) : gR s 1 ≤ gR s 3 := by
  rw [i_le]
  omega
def mRngD (s : MS) : MS := if gR s 9 ≤ gR s 10 then wR s 8 1 else wR s 8 0
def mRngK (s : MS) : MS := if isD (mSee s) = true then mRngD (wR (mNum s 99999).2 10 (mNum s 99999).1) else s
def mRngC (s : MS) : MS := if gR s 4 = 0 then mRngK (wR s 8 2) else s
def mRngB (s : MS) : MS := mRngC (mExp (wR (mNum s 99999).2 9 (mNum s 99999).1) 45).2
def mRngA (s : MS) : MS := wR (mNum s 99999).2 9 (mNum s 99999).1
def mRngG (s : MS) : MS := if gR s 4 = 0 then (if mSee s = 45 then mRngA (wR (wR s 3 (gR s 3 + 1)) 8 3) else mRngB s) else s
def mRng (s : MS) : MS := mRngG (mWord t_bytes s).2
theorem inv_reg {s : MS} {x : Int32} (k : Nat) (hv : mInv s) (h1 : k ≠ 1) (h2 : k ≠ 3) (h3 : k ≠ 26) : mInv (wR s k x) := by
  have e : ∀ j, j ≠ k → gR (wR s k x) j = gR s j := fun j hj => by
    show (if j = k then x else s.1 j) = s.1 j
    rw [if_neg hj]
  unfold mInv
  rw [e 1 (Ne.symm h1), e 3 (Ne.symm h2), e 26 (Ne.symm h3)]
  exact hv
theorem inv_rng {s : MS} (hv : mInv s) : mInv (mRng s) := by
  have h1 : mInv (mWord t_bytes s).2 := inv_word _ _ (by decide) hv
  unfold mRng
  generalize (mWord t_bytes s).2 = s1 at h1
  unfold mRngG
  split
  · split
    · rename_i h
      exact inv_reg 9 (inv_num (inv_reg 8 (inv_nx h1 (see_lt h (by decide))) (by decide) (by decide) (by decide))) (by decide) (by decide) (by decide)
    · have h2 : mInv (mExp (wR (mNum s1 99999).2 9 (mNum s1 99999).1) 45).2 := inv_exp (inv_reg 9 (inv_num h1) (by decide) (by decide) (by decide)) (by decide)
      unfold mRngB
      generalize (mExp (wR (mNum s1 99999).2 9 (mNum s1 99999).1) 45).2 = s2 at h2
      unfold mRngC
      split
      · have h3 : mInv (wR s2 8 2) := inv_reg 8 h2 (by decide) (by decide) (by decide)
        unfold mRngK
        split
        · have h4 : mInv (wR (mNum (wR s2 8 2) 99999).2 10 (mNum (wR s2 8 2) 99999).1) := inv_reg 10 (inv_num h3) (by decide) (by decide) (by decide)
          unfold mRngD
          split
          · exact inv_reg 8 h4 (by decide) (by decide) (by decide)
          · exact inv_reg 8 h4 (by decide) (by decide) (by decide)
        · exact h3
      · exact h2
  · exact h1
def mdW (bd : Nat → Nat) (ce : Nat → ClassId) (s : MS) : va_W := [(bd 0, .inr (4, [.int (gR s 0), .ref (bd 1), .int (gR s 1), .int (gR s 2), .int (gR s 3), .int (gR s 4), .int (gR s 5), .int (gR s 6), .int (gR s 7), .int (gR s 8), .int (gR s 9), .int (gR s 10), .int (gR s 11), .int (gR s 12), .int (gR s 13), .int (gR s 14), .int (gR s 15), .int (gR s 16), .int (gR s 17), .int (gR s 18), .ref (bd 2), .int (gR s 19), .int (gR s 20), .int (gR s 21), .int (gR s 22), .int (gR s 23), .int (gR s 24), .int (gR s 25), .int (gR s 26), .ref (bd 3), .ref (bd 4), .ref (bd 5), .ref (bd 6), .int (gR s 27), .int (gR s 28), .int (gR s 29), .int (gR s 30), .int (gR s 31)])), (bd 1, .inl (ce 0, 300, .inl (gTp s))), (bd 2, .inl (ce 1, 8, .inl (gMt s))), (bd 3, .inl (ce 2, 150, .inl (gNf s))), (bd 4, .inl (ce 3, 150, .inl (gNt s))), (bd 5, .inl (ce 4, 18, .inl (gKp s))), (bd 6, .inl (ce 5, 8, .inl (gKm s)))]
abbrev tyM (ce : Nat → ClassId) : List (ClassId × FieldType) := [(ce 0, .int), (ce 1, .int), (ce 2, .int), (ce 3, .int), (ce 4, .int), (ce 5, .int)]
