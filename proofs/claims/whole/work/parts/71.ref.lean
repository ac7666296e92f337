/-! keep -/
abbrev kS (s : MS) (i : Nat) (v : Int32) : MS := wKp s (upd (gKp s) i v)
def kv0 (s : MS) (x : Int32) : Int32 := if x = 0 then 3 else if gR s 15 = 0 then 1 else 2
def kv4 (s : MS) : Int32 := if gR s 8 = 0 then -1 else gR s 9
def kv5 (s : MS) : Int32 := if gR s 8 = 1 then gR s 10 else -1
def kv6 (s : MS) : Int32 := if gR s 16 = 0 then 0 else 1
def kv10 (s : MS) : Int32 := if gR s 17 = 0 then (if gR s 25 = 0 then 0 else 1) else 1
def kv11 (s : MS) : Int32 := if gR s 18 = 0 then 0 else 1
def kv12 (s : MS) (x : Int32) : Int32 := if x = 0 then gR s 21 else gR s 12
def kv15 (s : MS) : Int32 := if gR s 24 = 0 then 0 else 1
def thL (s : MS) (k : Nat) : Nat → Nat → Bool → Bool
  | 0, _, t => t
  | r + 1, i, t => thL s k r (i + 1) (if t = true then true else if (gKm s) i = (gMt s) k then true else false)
abbrev kA2 (s : MS) : MS := wR s 27 (gR s 27 + 1)
def kA (s : MS) (k : Nat) : MS := kA2 (wKm s (upd (gKm s) (gR s 27).toNatClampNeg ((gMt s) k)))
def mKpL : Nat → Nat → MS → MS
  | 0, _, s => s
  | r + 1, k, s => mKpL r (k + 1) (if thL s k (gR s 27).toNatClampNeg 0 false = true then s else kA s k)
def mKz (s : MS) : MS := kS s 17 (gR s 23)
def mKy (s : MS) : MS := mKz (kS s 16 (gR s 22))
def mKx (s : MS) : MS := mKy (kS s 15 (kv15 s))
def mKw (s : MS) : MS := mKx (kS s 14 (gR s 14))
def mKv (s : MS) : MS := mKw (kS s 13 (gR s 13))
def mKu (s : MS) (x : Int32) : MS := mKv (kS s 12 (kv12 s x))
def mKt (s : MS) (x : Int32) : MS := mKu (kS s 11 (kv11 s)) x
def mKs (s : MS) (x : Int32) : MS := mKt (kS s 10 (kv10 s)) x
def mKr (s : MS) (x : Int32) : MS := mKs (kS s 9 (gR s 20)) x
def mKq (s : MS) (x : Int32) : MS := mKr (kS s 8 (gR s 19)) x
def mKp (s : MS) (x : Int32) : MS := mKq (kS s 7 (gR s 27)) x
def mKo (s : MS) (x : Int32) : MS := mKp (mKpL (gR s 11).toNatClampNeg 0 s) x
def mKn (s : MS) (x : Int32) : MS := mKo (wR s 27 0) x
def mKm (s : MS) (x : Int32) : MS := mKn (kS s 6 (kv6 s)) x
def mKl (s : MS) (x : Int32) : MS := mKm (kS s 5 (kv5 s)) x
def mKk (s : MS) (x : Int32) : MS := mKl (kS s 4 (kv4 s)) x
def mKj (s : MS) (x : Int32) : MS := mKk (kS s 3 (gR s 8)) x
def mKi (s : MS) (x : Int32) : MS := mKj (kS s 2 (gR s 7)) x
def mKh (s : MS) (x : Int32) : MS := mKi (kS s 1 (gR s 6)) x
def mKeep (s : MS) (x : Int32) : MS := mKh (kS s 0 (kv0 s x)) x
theorem kq0 {s : MS} : 0 ≤ (gR (wR s 27 0) 27).toInt ∧ (gR (wR s 27 0) 27).toInt ≤ ((0 : Nat) : Int) := by
  show 0 ≤ (0 : Int32).toInt ∧ (0 : Int32).toInt ≤ 0
  decide
theorem kb {s : MS} {j : Nat} (h8 : mB8 s) (hq : 0 ≤ (gR s 27).toInt ∧ (gR s 27).toInt ≤ (j : Int)) (h : j < (gR s 11).toNatClampNeg) : j < 8 ∧ (gR s 27).toNatClampNeg ≤ j ∧ vp_in (gR s 27) 8 := by
  have h' : j < (gR s 11).toInt.toNat := h
  obtain ⟨h1, h2⟩ := h8
  refine ⟨by omega, ?_, vp_in_iff.mpr ⟨hq.1, by omega⟩⟩
  show (gR s 27).toInt.toNat ≤ j
  omega
theorem ku {s : MS} {j : Nat} (hj : j < 8) (hq : 0 ≤ (gR s 27).toInt ∧ (gR s 27).toInt ≤ (j : Int)) : 0 ≤ (gR s 27 + 1).toInt ∧ (gR s 27 + 1).toInt ≤ ((j + 1 : Nat) : Int) := by
  have e1 : (1 : Int32).toInt = 1 := by decide
  rw [Int32.toInt_add, e1, Int.bmod_eq_of_le (by omega) (by omega)]
  omega
/-! the calls -/
theorem kq_wr1 {L : List Nat} {s t : MS} {k : Nat} {x : Int32} (h : Kq L s t) (hk : k ∈ L) : Kq L s (wR t k x) := h.tr (Kq.wr hk)
abbrev LZ : List Nat := [1, 2, 3, 4, 5]
theorem kq_txtE {s : MS} : Kq LZ s (mTxtE s).2 := by
  have hX : ∀ t : MS, (mTxtX t).2 = t := fun t => by unfold mTxtX; split <;> rfl
  have hW : ∀ t, Kq LZ s t → Kq LZ s (mTxtW t).2 := by
    intro t ht
    unfold mTxtW
    split
    · rw [hX]; exact kq_wr1 ht (by decide)
    · rw [hX]; exact kq_wr1 ht (by decide)
  have h1 : Kq LZ s (mExp s 10).2 := kq_exp.mono (by decide)
  unfold mTxtE
  generalize (mExp s 10).2 = s1 at h1
  unfold mTxtU
  split
  · split
    · exact hW _ (kq_wr1 h1 (by decide))
    · exact hW _ (kq_wr1 (h1.tr (kq_wr.mono (by decide))) (by decide))
  · exact hW _ (kq_wr1 h1 (by decide))
theorem b8_kq {L : List Nat} {s t : MS} (h : Kq L s t) (h1 : 11 ∉ L) (hj : mB8 s) : mB8 t := by
  unfold mB8
  rw [h.2 11 h1]
  exact hj
theorem b8_txtL {x : Int32} : ∀ (k : Nat) (s : MS), mInv s → jInv s → mB8 (mTxtL k x s).2 := by
  intro k
  induction k with
  | zero => intro s _ hj; exact b8_kq kq_txtE (by decide) hj.1
  | succ k ih =>
    intro s hv hj
    unfold mTxtL
    split
    · split
      · exact b8_kq kq_txtE (by decide) hj.1
      · exact ih _ (inv_line hv) (jv_line hv hj)
    · exact b8_kq kq_txtE (by decide) hj.1
theorem inv_rst2 {s : MS} (hp : pInv s) : mInv (mRst s) := inv_rst hp
theorem txt_start {s : MS} {x : Int32} (hp : pInv s) : ∃ t : MS, mInv t ∧ jInv t ∧ mTxt s x = mTxtL 301 x t := by
  have h1 := inv_rst2 hp
  have h2 := jv_rst (s := s)
  unfold mTxt
  generalize mRst s = s1 at h1 h2
  unfold mTxtA
  split
  · exact ⟨_, inv_tgt (inv_word _ _ (by decide) h1), jv_tgt (jv_word _ h2), rfl⟩
  · split
    · exact ⟨_, inv_tgt (inv_reg 15 (inv_word _ _ (by decide) h1) (by decide) (by decide) (by decide)), jv_tgt (jv_kq (L := [15]) (Kq.wr (by decide)) (by decide) (by decide) (jv_word _ h2)), rfl⟩
    · exact ⟨_, inv_tgt (inv_word _ _ (by decide) h1), jv_tgt (jv_word _ h2), rfl⟩
theorem b8_txt {s : MS} {x : Int32} (hp : pInv s) : mB8 (mTxt s x).2 := by
  obtain ⟨t, h1, h2, h3⟩ := txt_start (x := x) hp
  rw [h3]
  exact b8_txtL 301 t h1 h2
def mRdD (s : MS) : Int32 × MS := (gR s 28, s)
def mRdC (s : MS) : Int32 × MS := mRdD (wR s 28 (gR s 28 + 1))
def mRdB (s : MS) (x : Int32) : Int32 × MS := if (mTxt s x).1 = true then mRdC (mKeep (wR (mTxt s x).2 0 0) x) else (0, wR (mTxt s x).2 0 1)
def mRead (s : MS) (kd : Int32) : Int32 × MS := if kd < 0 then (0, wR s 0 1) else if 1 < kd then (0, wR s 0 1) else if kd = 0 then mRdB s 1 else mRdB s 0
def mToldB (s : MS) (x : Int32) : Int32 × MS := if gR s 28 = 0 then (-1, s) else if x < 0 then (-1, s) else if x ≤ 17 then ((gKp s) x.toNatClampNeg, s) else (-1, s)
def mTold (s : MS) (x : Int32) : Int32 × MS := mToldB (wR s 0 0) x
theorem hix17 {i : Int32} (h0 : ¬ i < 0) (h1 : i ≤ 17) : vp_in i 18 := by
  refine hix18 h0 (fun h => ?_)
  rw [i_le] at h h1
  have e1 : (17 : Int32).toInt = 17 := by decide
  have e2 : (18 : Int32).toInt = 18 := by decide
  omega
def mcL (s : MS) (x : Int32) : Nat → Nat → Bool → Bool
  | 0, _, t => t
  | r + 1, i, t => mcL s x r (i + 1) (if t = true then true else if (gKm s) i = x then true else false)
def mMchB (s : MS) (x : Int32) : Bool × MS := if gR s 28 = 0 then (false, s) else (mcL s x (gR s 27).toNatClampNeg 0 (if (gKp s) 6 = 1 then true else false), s)
def mMch (s : MS) (x : Int32) : Bool × MS := mMchB (wR s 0 0) x
theorem kp8 {s : MS} (hp : pInv s) : (gR s 27).toNatClampNeg ≤ 8 := by
  obtain ⟨-, -, h1, h2⟩ := hp
  show (gR s 27).toInt.toNat ≤ 8
  omega
def mFi (s : MS) (z : Int32) : Int32 := if (gKp s) 3 = 0 then 0 else if 3 ≤ (gKp s) 3 then (if z ≤ (gKp s) 4 then 0 else z - (gKp s) 4) else (gKp s) 4
def mEn (s : MS) (z : Int32) : Int32 := if (gKp s) 3 = 1 then (if z ≤ (gKp s) 5 then z else (gKp s) 5 + 1) else z
def mBytC (s : MS) (z y : Int32) : Int32 × MS := if mFi s z < mEn s z then (if y = 0 then (mFi s z, s) else if y = 1 then (mEn s z - 1, s) else (mEn s z - mFi s z, s)) else (if y = 2 then (0, s) else (-1, s))
def mBytB (s : MS) (z y : Int32) : Int32 × MS := if gR s 28 = 0 then (-1, s) else if z < 0 then (-1, s) else if 255 < z then (-1, s) else if y < 0 then (-1, s) else if y ≤ 2 then mBytC s z y else (-1, s)
def mByt (s : MS) (z y : Int32) : Int32 × MS := mBytB (wR s 0 0) z y
def mFauB (s : MS) : Int32 × MS := (gR s 2, s)
def mFau (s : MS) : Int32 × MS := mFauB (wR s 0 0)
/-! typing -/
def byR (w : Int64) (i : Int32) : Int32 := ((w >>> ((8 * i).toInt64 &&& 63)) &&& 255).toInt32
def mayR (c : Int32) : Bool := if c = 10 then true else if c < 32 then false else if c ≤ 126 then true else false
def tyOk (w : Int64) : Nat → Nat → Bool
  | 0, _ => true
  | k + 1, i => if mayR (byR w (nI i)) = true then tyOk w k (i + 1) else false
def tyW (w : Int64) : Nat → MS → MS
  | 0, s => s
  | k + 1, s => tyW w k (wR (wTp s (upd (gTp s) (gR s 1).toNatClampNeg (byR w (nI k)))) 1 (gR s 1 + 1))
def mTypB (s : MS) (w : Int64) (n : Int32) : Bool × MS := if n < 1 then (false, s) else if 8 < n then (false, s) else if gR s 1 + n ≤ 300 then (if tyOk w n.toNatClampNeg 0 = true then (true, tyW w n.toNatClampNeg s) else (false, s)) else (false, s)
def mTyp (s : MS) (w : Int64) (n : Int32) : Bool × MS := mTypB (wR s 0 0) w n
theorem ty_st {s : MS} {n : Int32} (hp : pInv s) (h1 : ¬ n < 1) (h2 : ¬ 8 < n) (h3 : gR s 1 + n ≤ 300) : (gR s 1).toInt + (n.toNatClampNeg : Int) ≤ 300 ∧ nI n.toNatClampNeg = n ∧ n.toNatClampNeg ≤ 8 := by
  rw [i_lt] at h1 h2
  rw [i_le] at h3
  have e1 : (1 : Int32).toInt = 1 := by decide
  have e8 : (8 : Int32).toInt = 8 := by decide
  have e3 : (300 : Int32).toInt = 300 := by decide
  rw [e1] at h1
  rw [e8] at h2
  obtain ⟨p1, p2, -⟩ := hp
  rw [e3, Int32.toInt_add, Int.bmod_eq_of_le (by omega) (by omega)] at h3
  have q : (n.toNatClampNeg : Int) = n.toInt := by show ((n.toInt.toNat : Nat) : Int) = n.toInt; omega
  refine ⟨by omega, ?_, by omega⟩
  rw [← Int32.toInt_inj, nI_toInt (by omega), q]
theorem ty_in {a : Int32} {k : Nat} (h1 : 0 ≤ a.toInt) (h2 : a.toInt + ((k + 1 : Nat) : Int) ≤ 300) : vp_in a 300 := vp_in_iff.mpr ⟨h1, by omega⟩
theorem ty_nx {a : Int32} {k : Nat} (h1 : 0 ≤ a.toInt) (h2 : a.toInt + ((k + 1 : Nat) : Int) ≤ 300) : 0 ≤ (a + 1).toInt ∧ (a + 1).toInt + (k : Int) ≤ 300 := by
  have e1 : (1 : Int32).toInt = 1 := by decide
  rw [Int32.toInt_add, e1, Int.bmod_eq_of_le (by omega) (by omega)]
  omega
