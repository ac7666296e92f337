/-! which registers a function may change: the rows stay, and the registers outside L -/
def Kq (L : List Nat) (s t : MS) : Prop := t.2 = s.2 ∧ ∀ k, k ∉ L → gR t k = gR s k
theorem Kq.rf {L : List Nat} {s : MS} : Kq L s s := ⟨rfl, fun _ _ => rfl⟩
theorem Kq.tr {L : List Nat} {s t u : MS} (h : Kq L s t) (g : Kq L t u) : Kq L s u := ⟨g.1.trans h.1, fun k hk => (g.2 k hk).trans (h.2 k hk)⟩
theorem Kq.mono {L L' : List Nat} {s t : MS} (h : Kq L s t) (hL : ∀ k ∈ L, k ∈ L') : Kq L' s t := ⟨h.1, fun k hk => h.2 k (fun q => hk (hL k q))⟩
theorem Kq.wr {L : List Nat} {s : MS} {k : Nat} {x : Int32} (hk : k ∈ L) : Kq L s (wR s k x) := ⟨rfl, fun j hj => by
  have q : j ≠ k := fun h => hj (h ▸ hk)
  show (if j = k then x else s.1 j) = s.1 j
  rw [if_neg q]⟩
abbrev L3 : List Nat := [3, 4, 5]
theorem kq_nx {s : MS} : Kq L3 s (mNx s) := Kq.wr (by decide)
theorem kq_wr {s : MS} {p : Int32} : Kq L3 s (mWr s p) := by
  unfold mWr
  split
  · exact (Kq.wr (by decide)).tr (Kq.wr (by decide))
  · exact Kq.rf
theorem kq_exp {s : MS} {c : Int32} : Kq L3 s (mExp s c).2 := by
  unfold mExp
  split
  · split
    · exact kq_nx
    · exact kq_wr
  · exact Kq.rf
theorem kq_word : ∀ (w : List Int32) (s : MS), Kq L3 s (mWord w s).2 := by
  intro w
  induction w with
  | nil => intro s; exact Kq.rf
  | cons c cs ih =>
    intro s
    have h := kq_exp (s := s) (c := c)
    show Kq L3 s (bnM (mExp s c) (fun s => mWord cs s)).2
    unfold bnM
    cases (mExp s c).1 with
    | true => exact h.tr (ih _)
    | false => exact h
theorem kq_numL {fr : Int32} : ∀ (k : Nat) (s : MS) (v : Int32), Kq L3 s (mNumL fr k s v).1 := by
  intro k
  induction k with
  | zero => intro s v; exact Kq.rf
  | succ k ih =>
    intro s v
    unfold mNumL
    split
    · exact kq_nx.tr (ih _ _)
    · exact Kq.rf
theorem kq_num {s : MS} {m : Int32} : Kq L3 s (mNum s m).2 := by
  unfold mNum
  split
  · have h := kq_numL (fr := gR s 3) 5 s 0
    generalize mNumL (gR s 3) 5 s 0 = q at h
    have hA : Kq L3 q.1 (mNumA q.1 (gR s 3)) := by
      unfold mNumA
      split
      · exact kq_wr
      · exact Kq.rf
    have hB : Kq L3 (mNumA q.1 (gR s 3)) (mNumB (mNumA q.1 (gR s 3)) q.2 (gR s 3) m) := by
      unfold mNumB
      split
      · exact Kq.rf
      · exact kq_wr
    have hC : (mNumE q (gR s 3) m).2 = mNumB (mNumA q.1 (gR s 3)) q.2 (gR s 3) m := by
      unfold mNumE mNumC
      split <;> rfl
    rw [hC]
    exact h.tr (hA.tr hB)
  · exact Kq.rf
theorem kq_anyL : ∀ (k : Nat) (s : MS), Kq L3 s (mAnyL k s) := by
  intro k
  induction k with
  | zero => intro s; exact Kq.rf
  | succ k ih =>
    intro s
    unfold mAnyL
    split
    · exact Kq.rf
    · split
      · exact Kq.rf
      · exact kq_nx.tr (ih _)
theorem kq_letL : ∀ (k : Nat) (s : MS), Kq L3 s (mLetL k s) := by
  intro k
  induction k with
  | zero => intro s; exact Kq.rf
  | succ k ih =>
    intro s
    unfold mLetL
    split
    · exact kq_nx.tr (ih _)
    · exact Kq.rf
/-! the place only grows -/
def Ad (s t : MS) : Prop := gR t 1 = gR s 1 ∧ (gR s 3).toInt ≤ (gR t 3).toInt
theorem Ad.rf {s : MS} : Ad s s := ⟨rfl, Int.le_refl _⟩
theorem Ad.tr {s t u : MS} (h : Ad s t) (g : Ad t u) : Ad s u := ⟨g.1.trans h.1, Int.le_trans h.2 g.2⟩
theorem Ad.reg {s : MS} {k : Nat} {x : Int32} (h1 : k ≠ 1) (h2 : k ≠ 3) : Ad s (wR s k x) := by
  have e : ∀ j, j ≠ k → gR (wR s k x) j = gR s j := fun j hj => by
    show (if j = k then x else s.1 j) = s.1 j
    rw [if_neg hj]
  exact ⟨e 1 (Ne.symm h1), by rw [e 3 (Ne.symm h2)]; exact Int.le_refl _⟩
theorem ad_nx {s : MS} (hv : mInv s) (hs : ¬ gR s 1 ≤ gR s 3) : Ad s (mNx s) := ⟨rfl, at_up hv hs (Int.le_refl _)⟩
theorem ad_wr {s : MS} {p : Int32} : Ad s (mWr s p) := by
  unfold mWr
  split
  · exact ⟨rfl, Int.le_refl _⟩
  · exact Ad.rf
theorem ad_exp {s : MS} {c : Int32} (hv : mInv s) (hc : ¬ c = -1) : Ad s (mExp s c).2 := by
  unfold mExp
  split
  · split
    · rename_i h
      exact ad_nx hv (see_lt h hc)
    · exact ad_wr
  · exact Ad.rf
theorem ad_numL {fr : Int32} : ∀ (k : Nat) (s : MS) (v : Int32), mInv s → Ad s (mNumL fr k s v).1 := by
  intro k
  induction k with
  | zero => intro s v _; exact Ad.rf
  | succ k ih =>
    intro s v hv
    unfold mNumL
    split
    · rename_i h
      have hs := see_lt rfl (isD_ne h)
      exact (ad_nx hv hs).tr (ih _ _ (inv_nx hv hs))
    · exact Ad.rf
theorem ad_num {s : MS} {m : Int32} (hv : mInv s) : Ad s (mNum s m).2 := by
  unfold mNum
  split
  · have h := ad_numL (fr := gR s 3) 5 s 0 hv
    generalize mNumL (gR s 3) 5 s 0 = q at h
    have hA : Ad q.1 (mNumA q.1 (gR s 3)) := by
      unfold mNumA
      split
      · exact ad_wr
      · exact Ad.rf
    have hB : Ad (mNumA q.1 (gR s 3)) (mNumB (mNumA q.1 (gR s 3)) q.2 (gR s 3) m) := by
      unfold mNumB
      split
      · exact Ad.rf
      · exact ad_wr
    have hC : (mNumE q (gR s 3) m).2 = mNumB (mNumA q.1 (gR s 3)) q.2 (gR s 3) m := by
      unfold mNumE mNumC
      split <;> rfl
    rw [hC]
    exact h.tr (hA.tr hB)
  · exact Ad.rf
theorem ad_letL : ∀ (k : Nat) (s : MS), mInv s → Ad s (mLetL k s) := by
  intro k
  induction k with
  | zero => intro s _; exact Ad.rf
  | succ k ih =>
    intro s hv
    unfold mLetL
    split
    · rename_i h
      have hs := see_lt rfl (isL_ne h)
      exact (ad_nx hv hs).tr (ih _ (inv_nx hv hs))
    · exact Ad.rf
/-! matching -/
abbrev mMtP (s : MS) (v : Int32) : MS := wR (wMt s (upd (gMt s) (gR s 11).toNatClampNeg v)) 11 (gR s 11 + 1)
def mMtC (k : Nat) (K : MS → MS) (s : MS) : MS := if mSee s = 44 then (if k = 0 then s else K (mExp (mNx s) 32).2) else s
def mMtB (k : Nat) (K : MS → MS) (s : MS) (v : Int32) : MS := if gR s 4 = 0 then mMtC k K (mMtP s v) else s
def mMtA (k : Nat) (K : MS → MS) (s : MS) : MS := mMtB k K (mExp (mNum s 99999).2 34).2 (mNum s 99999).1
def mMtL : Nat → MS → MS
  | 0, s => s
  | k + 1, s => if gR s 4 = 0 then mMtA k (fun s => mMtL k s) (mExp s 34).2 else s
def mMat (s : MS) : MS := if mSee s = 42 then wR (mNx s) 16 1 else mMtL 8 s
theorem mt_in {s : MS} {j : Nat} (h : gR s 11 = nI j) (hj : j < 8) : vp_in (gR s 11) 8 := by rw [h]; exact vp_in_nI hj (by decide)
theorem mt_nx {s : MS} {j : Nat} {v : Int32} (h : gR s 11 = nI j) : gR (mMtP s v) 11 = nI (j + 1) := by
  show gR s 11 + 1 = nI (j + 1)
  rw [h, nI_succ]
theorem inv_mtP {s : MS} {v : Int32} (hv : mInv s) : mInv (mMtP s v) := hv
theorem inv_mtL : ∀ (k : Nat) (s : MS), mInv s → mInv (mMtL k s) := by
  intro k
  induction k with
  | zero => intro s hv; exact hv
  | succ k ih =>
    intro s hv
    unfold mMtL
    split
    · have h1 := inv_exp (c := 34) hv (by decide)
      generalize (mExp s 34).2 = s1 at h1
      have h2 := inv_exp (c := 34) (inv_num (most := 99999) h1) (by decide)
      unfold mMtA
      generalize (mExp (mNum s1 99999).2 34).2 = s2 at h2
      unfold mMtB
      split
      · have h3 : mInv (mMtP s2 (mNum s1 99999).1) := inv_mtP h2
        generalize mMtP s2 (mNum s1 99999).1 = s3 at h3
        unfold mMtC
        split
        · rename_i h44
          split
          · exact h3
          · exact ih _ (inv_exp (inv_nx h3 (see_lt h44 (by decide))) (by decide))
        · exact h3
      · exact h2
    · exact hv
theorem inv_mat {s : MS} (hv : mInv s) : mInv (mMat s) := by
  unfold mMat
  split
  · rename_i h
    exact inv_reg 16 (inv_nx hv (see_lt h (by decide))) (by decide) (by decide) (by decide)
  · exact inv_mtL 8 s hv
/-! a WORD of cache-control -/
def mRB0 (s : MS) : MS := if mIsW s t_no_cache = true then wR s 17 1 else s
def mRB1 (s : MS) : MS := if mIsW s t_only_if_cached = true then wR s 18 1 else s
def mRB2 (s : MS) : MS := if mIsW s t_max_stale = true then wR s 13 (-2) else s
def mRH0 (s : MS) : MS := if mIsW s t_max_age = true then wR s 12 (gR s 31) else s
def mRH1 (s : MS) : MS := if mIsW s t_max_stale = true then wR s 13 (gR s 31) else s
def mRH2 (s : MS) : MS := if mIsW s t_min_fresh = true then wR s 14 (gR s 31) else s
def mReq (s : MS) : MS := if gR s 31 = -1 then mRB2 (mRB1 (mRB0 s)) else mRH2 (mRH1 (mRH0 s))
def mTB0 (s : MS) : MS := if mIsW s t_no_store = true then wR s 24 1 else s
def mTB1 (s : MS) : MS := if mIsW s t_no_cache = true then wR s 25 1 else s
def mTH0 (s : MS) : MS := if mIsW s t_max_age = true then wR s 21 (gR s 31) else s
def mTH1 (s : MS) : MS := if mIsW s t_stale_if_error = true then wR s 22 (gR s 31) else s
def mTH2 (s : MS) : MS := if mIsW s t_stale_while_revalidate = true then wR s 23 (gR s 31) else s
def mThg (s : MS) : MS := if gR s 31 = -1 then mTB1 (mTB0 s) else mTH2 (mTH1 (mTH0 s))
abbrev LW : List Nat := [12, 13, 14, 17, 18, 21, 22, 23, 24, 25]
theorem kq_if {L : List Nat} {s : MS} {b : Bool} {k : Nat} {x : Int32} (hk : k ∈ L) : Kq L s (if b = true then wR s k x else s) := by
  split
  · exact Kq.wr hk
  · exact Kq.rf
theorem kq_req {s : MS} : Kq LW s (mReq s) := by
  unfold mReq
  split
  · exact (kq_if (by decide)).tr ((kq_if (by decide)).tr (kq_if (by decide)))
  · exact (kq_if (by decide)).tr ((kq_if (by decide)).tr (kq_if (by decide)))
theorem kq_thg {s : MS} : Kq LW s (mThg s) := by
  unfold mThg
  split
  · exact (kq_if (by decide)).tr (kq_if (by decide))
  · exact (kq_if (by decide)).tr ((kq_if (by decide)).tr (kq_if (by decide)))
theorem inv_kq {L : List Nat} {s t : MS} (h : Kq L s t) (h1 : 1 ∉ L) (h3 : 3 ∉ L) (hn : 26 ∉ L) (hv : mInv s) : mInv t := by
  obtain ⟨hr, hk⟩ := h
  have e1 : gNf t = gNf s := by unfold gNf; rw [hr]
  have e2 : gNt t = gNt s := by unfold gNt; rw [hr]
  unfold mInv
  rw [hk 1 h1, hk 3 h3, hk 26 hn, e1, e2]
  exact hv
theorem ad_kq {L : List Nat} {s t : MS} (h : Kq L s t) (h1 : 1 ∉ L) (h3 : 3 ∉ L) : Ad s t := ⟨h.2 1 h1, by rw [h.2 3 h3]; exact Int.le_refl _⟩
variable {l : Launch} {D : va_G} {bd : Nat → Nat} {ce : Nat → ClassId} {adK adV : Nat → Nat} {tF : Nat} {tys : List (ClassId × FieldType)}
theorem c_Mod_isWordL (st : MS) (hv : mInv st) (hw : wInv st) {i : Nat} (hi : i < nJS) {w : List Int32} (hw2 : sw i = w) : hx_Mz l D (tyM ce) adK adV tF (mdW bd ce) y_Mod_isWord w_Mod_isWord (rmD 5) [.ref (bd 0), .ref (adK i)] st (mIsW st w) st := by
  subst hw2
  exact c_Mod_isWord st hv hw hi
theorem c_Mod_isNamedL (st : MS) (hv : mInv st) (hn : 1 ≤ (gR st 26).toInt) {i : Nat} (hi : i < nJS) {w : List Int32} (hw2 : sw i = w) : hx_Mz l D (tyM ce) adK adV tF (mdW bd ce) y_Mod_isNamed w_Mod_isNamed (rmD 5) [.ref (bd 0), .ref (adK i)] st (mNamed st w) st := by
  subst hw2
  exact c_Mod_isNamed st hv hn hi
