/-! a LINE -/
def mLinZ (s : MS) : MS := (mExp s 10).2
def mLinB (x : Int32) (s : MS) : MS := if x = 0 then (if mNamed s t_cache_control = true then mLinZ (mLisL 301 x s) else if mNamed s t_length = true then mLinZ (wR (mNum s 255).2 19 (mNum s 255).1) else if mNamed s t_keys = true then mLinZ (mKeyL 8 s) else mLinZ (mAnyL 300 s)) else (if mNamed s t_range = true then mLinZ (mRng s) else if mNamed s t_if_none_match = true then mLinZ (mMat s) else if mNamed s t_cache_control = true then mLinZ (mLisL 301 x s) else mLinZ (mAnyL 300 s))
def mLine (s : MS) (x : Int32) : MS := if gR s 3 < gR s 1 then (if (mNam s).1 = true then mLinB x (mNam s).2 else (mNam s).2) else mWr s (gR s 1)
/-! good, and further on -/
def Gn (s t : MS) : Prop := mInv t ∧ Ad s t
theorem g_exp {s t : MS} {c : Int32} (h : Gn s t) (hc : ¬ c = -1) : Gn s (mExp t c).2 := ⟨inv_exp h.1 hc, h.2.tr (ad_exp h.1 hc)⟩
theorem g_nx {s t : MS} (h : Gn s t) (hs : ¬ gR t 1 ≤ gR t 3) : Gn s (mNx t) := ⟨inv_nx h.1 hs, h.2.tr (ad_nx h.1 hs)⟩
theorem g_wr {s t : MS} {p : Int32} (h : Gn s t) : Gn s (mWr t p) := ⟨inv_wr h.1, h.2.tr ad_wr⟩
theorem g_num {s t : MS} {m : Int32} (h : Gn s t) : Gn s (mNum t m).2 := ⟨inv_num h.1, h.2.tr (ad_num h.1)⟩
theorem g_reg {s t : MS} {x : Int32} (k : Nat) (h : Gn s t) (h1 : k ≠ 1) (h2 : k ≠ 3) (h3 : k ≠ 26) : Gn s (wR t k x) := ⟨inv_reg k h.1 h1 h2 h3, h.2.tr (Ad.reg h1 h2)⟩
theorem g_kq {L : List Nat} {s t u : MS} (h : Gn s t) (q : Kq L t u) (h1 : 1 ∉ L) (h3 : 3 ∉ L) (hn : 26 ∉ L) : Gn s u := ⟨inv_kq q h1 h3 hn h.1, h.2.tr (ad_kq q h1 h3)⟩
theorem g_word {s : MS} : ∀ (w : List Int32) (t : MS), (∀ c ∈ w, ¬ c = -1) → Gn s t → Gn s (mWord w t).2 := by
  intro w
  induction w with
  | nil => intro t _ h; exact h
  | cons c cs ih =>
    intro t hw h
    have q := g_exp (c := c) h (hw c List.mem_cons_self)
    show Gn s (bnM (mExp t c) (fun s => mWord cs s)).2
    unfold bnM
    cases (mExp t c).1 with
    | true => exact ih _ (fun c hc => hw c (List.mem_cons_of_mem _ hc)) q
    | false => exact q
theorem g_anyL {s : MS} : ∀ (k : Nat) (t : MS), Gn s t → Gn s (mAnyL k t) := by
  intro k
  induction k with
  | zero => intro t h; exact h
  | succ k ih =>
    intro t h
    unfold mAnyL
    split
    · exact h
    · split
      · exact h
      · rename_i q
        exact ih _ (g_nx h q)
theorem g_letL {s : MS} : ∀ (k : Nat) (t : MS), Gn s t → Gn s (mLetL k t) := fun k t h => ⟨inv_letL k t h.1, h.2.tr (ad_letL k t h.1)⟩
theorem g_keyL {s : MS} : ∀ (k : Nat) (t : MS), Gn s t → Gn s (mKeyL k t) := by
  intro k
  induction k with
  | zero => intro t h; exact h
  | succ k ih =>
    intro t h
    unfold mKeyL
    split
    · split
      · exact g_wr h
      · rename_i h97
        split
        · have h2 : Gn s (mNx (wR t 20 (gR t 20 ||| ((1 : Int32) <<< ((mSee t - 97) &&& 31))))) := g_nx (g_reg 20 h (by decide) (by decide) (by decide)) (show ¬ gR t 1 ≤ gR t 3 from see_lt rfl (ge97 h97))
          split
          · rename_i h32
            split
            · exact h2
            · exact ih _ (g_nx h2 (see_lt h32 (by decide)))
          · exact h2
        · exact g_wr h
    · exact h
theorem g_rng {s t : MS} (h : Gn s t) : Gn s (mRng t) := by
  have h1 : Gn s (mWord t_bytes t).2 := g_word _ _ (by decide) h
  unfold mRng
  generalize (mWord t_bytes t).2 = s1 at h1
  unfold mRngG
  split
  · split
    · rename_i q
      exact g_reg 9 (g_num (g_reg 8 (g_nx h1 (see_lt q (by decide))) (by decide) (by decide) (by decide))) (by decide) (by decide) (by decide)
    · have h2 : Gn s (mExp (wR (mNum s1 99999).2 9 (mNum s1 99999).1) 45).2 := g_exp (g_reg 9 (g_num h1) (by decide) (by decide) (by decide)) (by decide)
      unfold mRngB
      generalize (mExp (wR (mNum s1 99999).2 9 (mNum s1 99999).1) 45).2 = s2 at h2
      unfold mRngC
      split
      · have h3 : Gn s (wR s2 8 2) := g_reg 8 h2 (by decide) (by decide) (by decide)
        unfold mRngK
        split
        · have h4 : Gn s (wR (mNum (wR s2 8 2) 99999).2 10 (mNum (wR s2 8 2) 99999).1) := g_reg 10 (g_num h3) (by decide) (by decide) (by decide)
          unfold mRngD
          split
          · exact g_reg 8 h4 (by decide) (by decide) (by decide)
          · exact g_reg 8 h4 (by decide) (by decide) (by decide)
        · exact h3
      · exact h2
  · exact h1
theorem g_mtP {s t : MS} {v : Int32} (h : Gn s t) : Gn s (mMtP t v) := ⟨h.1, h.2⟩
theorem g_mtL {s : MS} : ∀ (k : Nat) (t : MS), Gn s t → Gn s (mMtL k t) := by
  intro k
  induction k with
  | zero => intro t h; exact h
  | succ k ih =>
    intro t h
    unfold mMtL
    split
    · have h1 := g_exp (c := 34) h (by decide)
      generalize (mExp t 34).2 = s1 at h1
      have h2 := g_exp (c := 34) (g_num (m := 99999) h1) (by decide)
      unfold mMtA
      generalize (mExp (mNum s1 99999).2 34).2 = s2 at h2
      unfold mMtB
      split
      · have h3 : Gn s (mMtP s2 (mNum s1 99999).1) := g_mtP h2
        generalize mMtP s2 (mNum s1 99999).1 = s3 at h3
        unfold mMtC
        split
        · rename_i h44
          split
          · exact h3
          · exact ih _ (g_exp (g_nx h3 (see_lt h44 (by decide))) (by decide))
        · exact h3
      · exact h2
    · exact h
theorem g_mat {s t : MS} (h : Gn s t) : Gn s (mMat t) := by
  unfold mMat
  split
  · rename_i q
    exact g_reg 16 (g_nx h (see_lt q (by decide))) (by decide) (by decide) (by decide)
  · exact g_mtL 8 t h
theorem g_lisL {s : MS} : ∀ (k : Nat) (x : Int32) (t : MS), Gn s t → Gn s (mLisL k x t) := by
  intro k
  induction k with
  | zero => intro x t h; exact h
  | succ k ih =>
    intro x t h
    unfold mLisL
    split
    · have h1 : Gn s (mLisA (mLetL 300 (mLisW t))) := g_reg 30 (g_letL 300 _ (g_reg 29 h (by decide) (by decide) (by decide))) (by decide) (by decide) (by decide)
      generalize mLisA (mLetL 300 (mLisW t)) = s1 at h1
      have hE : ∀ t, Gn s t → Gn s (mLisE (fun s => mLisL k x s) t) := by
        intro t ht
        unfold mLisE
        split
        · rename_i h44
          exact ih _ _ (g_exp (g_nx ht (see_lt h44 (by decide))) (by decide))
        · exact ht
      have hD : ∀ t, Gn s t → Gn s (mLisD x (fun s => mLisL k x s) t) := by
        intro t ht
        unfold mLisD
        split
        · split
          · exact hE _ (g_kq ht kq_thg (by decide) (by decide) (by decide))
          · exact hE _ (g_kq ht kq_req (by decide) (by decide) (by decide))
        · exact ht
      have hC : ∀ t, Gn s t → Gn s (mLisC x (fun s => mLisL k x s) t) := by
        intro t ht
        unfold mLisC
        split
        · split
          · rename_i h61
            exact hD _ (g_reg 31 (g_num (g_nx ht (see_lt h61 (by decide)))) (by decide) (by decide) (by decide))
          · exact hD _ ht
        · exact hD _ ht
      unfold mLisB
      split
      · exact hC _ (g_reg 31 (g_wr h1) (by decide) (by decide) (by decide))
      · split
        · exact hC _ (g_reg 31 h1 (by decide) (by decide) (by decide))
        · exact hC _ (g_reg 31 (g_wr h1) (by decide) (by decide) (by decide))
    · exact h
theorem g_linB {s t : MS} {x : Int32} (h : Gn s t) : Gn s (mLinB x t) := by
  unfold mLinB mLinZ
  split
  · split
    · exact g_exp (g_lisL _ _ _ h) (by decide)
    · split
      · exact g_exp (g_reg 19 (g_num h) (by decide) (by decide) (by decide)) (by decide)
      · split
        · exact g_exp (g_keyL _ _ h) (by decide)
        · exact g_exp (g_anyL _ _ h) (by decide)
  · split
    · exact g_exp (g_rng h) (by decide)
    · split
      · exact g_exp (g_mat h) (by decide)
      · split
        · exact g_exp (g_lisL _ _ _ h) (by decide)
        · exact g_exp (g_anyL _ _ h) (by decide)
/-! a NAME that stands -/
theorem wr_bad {s : MS} {p : Int32} : ¬ gR (mWr s p) 4 = 0 := by
  unfold mWr
  split
  · exact (by decide : ¬ (1 : Int32) = 0)
  · assumption
theorem nam_bad {s : MS} (h : (mNam s).1 = false) : ¬ gR (mNam s).2 4 = 0 := by
  revert h
  unfold mNam
  generalize mLetL 300 s = s1
  unfold mNamE
  split
  · intro _; exact wr_bad
  · split
    · split
      · unfold mNamF
        split
        · intro _; exact wr_bad
        · unfold mNamG
          split
          · intro h; simp at h
          · intro h; simp at h
      · intro _; exact wr_bad
    · intro _; exact wr_bad
theorem nam_ok {s : MS} (h : (mNam s).1 = true) : ¬ gR (mLetL 300 s) 3 = gR s 3 ∧ gR (mLetL 300 s) 3 - gR s 3 ≤ 20 ∧ mSee (mLetL 300 s) = 58 ∧ ¬ mDup (mLetL 300 s) (gR s 3) (gR (mLetL 300 s) 26).toNatClampNeg 0 = true ∧ (mNam s).2 = (mNamG (mAddN (mLetL 300 s) (gR s 3))).2 := by
  revert h
  unfold mNam
  generalize mLetL 300 s = s1
  unfold mNamE
  split
  · intro h; simp at h
  · rename_i h1
    split
    · rename_i h2
      split
      · rename_i h3
        unfold mNamF
        split
        · intro h; simp at h
        · rename_i h4
          intro _
          exact ⟨h1, h2, h3, h4, rfl⟩
      · intro h; simp at h
    · intro h; simp at h
theorem kq_namG {s : MS} : Kq L3 s (mNamG s).2 := by
  unfold mNamG
  split
  · exact kq_nx
  · exact Kq.rf
theorem g_namG {s t : MS} (h : Gn s t) : Gn s (mNamG t).2 := by
  unfold mNamG
  split
  · rename_i q
    exact g_nx h (see_lt q (by decide))
  · exact h
theorem nam_inv {s : MS} (hv : mInv s) (h : (mNam s).1 = true) : mInv (mAddN (mLetL 300 s) (gR s 3)) := by
  obtain ⟨h1, -, h3, -, -⟩ := nam_ok h
  obtain ⟨q1, q2, -⟩ := letL_keep 300 s hv
  exact inv_add (inv_letL 300 s hv) hv.1 q1 (by rw [q2]; exact hv.2.2.2.2.1) h1 (see_lt h3 (by decide))
theorem nam_p1 {s : MS} (hv : mInv s) : (gR s 26 + 1).toInt = (gR s 26).toInt + 1 := by
  obtain ⟨h1, h2, h3, h4, h5, h6⟩ := hv
  have e1 : (1 : Int32).toInt = 1 := by decide
  rw [Int32.toInt_add, e1, Int.bmod_eq_of_le (by omega) (by omega)]
theorem nam_n {s : MS} (hv : mInv s) (h : (mNam s).1 = true) : 1 ≤ (gR (mNam s).2 26).toInt := by
  have hl := inv_letL 300 s hv
  rw [(nam_ok h).2.2.2.2, kq_namG.2 26 (by decide)]
  show 1 ≤ (gR (mLetL 300 s) 26 + 1).toInt
  rw [nam_p1 hl]
  have := hl.2.2.2.1
  omega
theorem line_ad {s : MS} {x : Int32} (hv : mInv s) (h : gR (mLine s x) 4 = 0) : ∃ t, mInv t ∧ ¬ gR t 1 ≤ gR t 3 ∧ Ad s t ∧ Ad (mNx t) (mLine s x) := by
  unfold mLine at h ⊢
  split at h
  · rename_i hlt
    rw [if_pos hlt]
    split at h
    · rename_i hn
      rw [if_pos hn]
      obtain ⟨-, -, h3, -, h5⟩ := nam_ok hn
      have hs := see_lt h3 (by decide)
      refine ⟨mLetL 300 s, inv_letL 300 s hv, hs, ad_letL 300 s hv, ?_⟩
      have q : Gn (mNx (mLetL 300 s)) (mAddN (mLetL 300 s) (gR s 3)) := ⟨nam_inv hv hn, rfl, Int.le_refl _⟩
      rw [h5]
      exact (g_linB (g_namG q)).2
    · rename_i hn
      exact absurd h (nam_bad (by revert hn; cases (mNam s).1 <;> simp))
  · exact absurd h wr_bad
theorem inv_line {s : MS} {x : Int32} (hv : mInv s) : mInv (mLine s x) := by
  unfold mLine
  split
  · split
    · exact (g_linB (s := (mNam s).2) ⟨inv_nam hv, Ad.rf⟩).1
    · exact inv_nam hv
  · exact inv_wr hv
/-! if-none-match comes once -/
def isNm (s : MS) (k : Nat) (w : List Int32) : Prop := gNt s k - gNf s k = nI w.length ∧ wEqM (gTp s) (gNf s k) w 0 = true
def mB8 (s : MS) : Prop := 0 ≤ (gR s 11).toInt ∧ (gR s 11).toInt ≤ 8
def jInv (s : MS) : Prop := mB8 s ∧ (gR s 11 = 0 ∨ ∃ k : Nat, (k : Int) < (gR s 26).toInt ∧ isNm s k t_if_none_match)
theorem eqM_of : ∀ (w : List Int32) (t : Nat → Int32) (a c : Int32) (j : Nat), wEqM t a w j = true → wEqM t c w j = true → eqM t a c w.length j = true := by
  intro w
  induction w with
  | nil => intro t a c j _ _; rfl
  | cons q qs ih =>
    intro t a c j h1 h2
    unfold wEqM at h1 h2
    show (if t (a + nI j).toNatClampNeg = t (c + nI j).toNatClampNeg then eqM t a c qs.length (j + 1) else false) = true
    split at h1
    · rename_i e1
      split at h2
      · rename_i e2
        rw [if_pos (e1.trans e2.symm)]
        exact ih t a c (j + 1) h1 h2
      · exact absurd h2 (by decide)
    · exact absurd h1 (by decide)
theorem same_of {t : Nat → Int32} {a b c d : Int32} {w : List Int32} (hl : w.length < 2 ^ 31) (h1 : b - a = nI w.length) (h2 : wEqM t a w 0 = true) (h3 : d - c = nI w.length) (h4 : wEqM t c w 0 = true) : mSame t a b c d = true := by
  unfold mSame
  rw [if_pos (h1.trans h3.symm), h1, nI_clamp hl]
  exact eqM_of w t a c 0 h2 h4
theorem dup_of {s : MS} {fr : Int32} : ∀ (r i k : Nat), i ≤ k → k < i + r → mSame (gTp s) (gNf s k) (gNt s k) fr (gR s 3) = true → mDup s fr r i = true := by
  intro r
  induction r with
  | zero => intro i k h1 h2 _; omega
  | succ r ih =>
    intro i k h1 h2 h
    unfold mDup
    split
    · rfl
    · rename_i q
      have hne : i ≠ k := fun e => q (by rw [e]; exact h)
      exact ih (i + 1) k (by omega) (by omega) h
theorem nam_rows {s : MS} (h : (mNam s).1 = true) : gTp (mNam s).2 = gTp s ∧ gNf (mNam s).2 = upd (gNf s) (gR s 26).toNatClampNeg (gR s 3) ∧ gNt (mNam s).2 = upd (gNt s) (gR s 26).toNatClampNeg (gR (mLetL 300 s) 3) ∧ gR (mNam s).2 26 = gR s 26 + 1 ∧ gR (mNam s).2 11 = gR s 11 := by
  have q := kq_letL 300 s
  rw [(nam_ok h).2.2.2.2]
  have g := kq_namG (s := mAddN (mLetL 300 s) (gR s 3))
  generalize (mNamG (mAddN (mLetL 300 s) (gR s 3))).2 = u at g
  obtain ⟨gr, gk⟩ := g
  obtain ⟨qr, qk⟩ := q
  have e1 : gNf (mLetL 300 s) = gNf s := by unfold gNf; rw [qr]
  have e2 : gNt (mLetL 300 s) = gNt s := by unfold gNt; rw [qr]
  have e3 : gTp (mLetL 300 s) = gTp s := by unfold gTp; rw [qr]
  refine ⟨?_, ?_, ?_, ?_, ?_⟩
  · rw [← e3]; unfold gTp; rw [gr]; rfl
  · rw [← e1, ← qk 26 (by decide)]; unfold gNf; rw [gr]; rfl
  · rw [← e2, ← qk 26 (by decide)]; unfold gNt; rw [gr]; rfl
  · rw [gk 26 (by decide), ← qk 26 (by decide)]; rfl
  · rw [gk 11 (by decide), ← qk 11 (by decide)]; rfl
theorem nam_AB {s : MS} (hv : mInv s) (h : (mNam s).1 = true) : nA (mNam s).2 = gR s 3 ∧ nB (mNam s).2 = gR (mLetL 300 s) 3 ∧ (gR (mNam s).2 26 - 1).toNatClampNeg = (gR s 26).toNatClampNeg := by
  obtain ⟨e1, e2, e3, e4, e5⟩ := nam_rows h
  have e : gR (mNam s).2 26 - 1 = gR s 26 := by rw [e4]; exact Int32.add_sub_cancel _ _
  refine ⟨?_, ?_, by rw [e]⟩
  · unfold nA; rw [e, e2, pk_us]
  · unfold nB; rw [e, e3, pk_us]
theorem mt_0 {s : MS} (hv : mInv s) (hj : jInv s) (h : (mNam s).1 = true) (hn : mNamed (mNam s).2 t_if_none_match = true) : gR (mNam s).2 11 = 0 := by
  obtain ⟨e1, e2, e3, e4, e5⟩ := nam_rows h
  obtain ⟨a1, a2, -⟩ := nam_AB hv h
  rw [e5]
  rcases hj.2 with q | ⟨k, hk, q1, q2⟩
  · exact q
  · exfalso
    have ql := kq_letL 300 s
    obtain ⟨-, -, -, hd, -⟩ := nam_ok h
    apply hd
    unfold mNamed at hn
    split at hn
    · rename_i hl
      rw [a1, a2] at hl
      rw [a1, e1] at hn
      refine dup_of _ 0 k (by omega) ?_ ?_
      · rw [ql.2 26 (by decide)]
        show k < 0 + (gR s 26).toInt.toNat
        omega
      · have f1 : gNf (mLetL 300 s) = gNf s := by unfold gNf; rw [ql.1]
        have f2 : gNt (mLetL 300 s) = gNt s := by unfold gNt; rw [ql.1]
        have f3 : gTp (mLetL 300 s) = gTp s := by unfold gTp; rw [ql.1]
        rw [f1, f2, f3]
        exact same_of (w := t_if_none_match) (by decide) q1 q2 hl hn
    · exact absurd hn (by decide)
theorem jv_kq {L : List Nat} {s t : MS} (h : Kq L s t) (h1 : 11 ∉ L) (hn : 26 ∉ L) (hj : jInv s) : jInv t := by
  obtain ⟨hr, hk⟩ := h
  have e1 : gNf t = gNf s := by unfold gNf; rw [hr]
  have e2 : gNt t = gNt s := by unfold gNt; rw [hr]
  have e3 : gTp t = gTp s := by unfold gTp; rw [hr]
  unfold jInv mB8 isNm
  rw [hk 11 h1, hk 26 hn, e1, e2, e3]
  exact hj
theorem jv_nam {s : MS} (hv : mInv s) (hj : jInv s) (h : (mNam s).1 = true) : jInv (mNam s).2 := by
  obtain ⟨e1, e2, e3, e4, e5⟩ := nam_rows h
  obtain ⟨hb, hj⟩ := hj
  refine ⟨by unfold mB8; rw [e5]; exact hb, ?_⟩
  rcases hj with q | ⟨k, hk, q1, q2⟩
  · exact Or.inl (by rw [e5]; exact q)
  · have hne : k ≠ (gR s 26).toNatClampNeg := by
      intro q
      have q' : k = (gR s 26).toInt.toNat := q
      omega
    refine Or.inr ⟨k, by rw [e4, nam_p1 hv]; omega, ?_⟩
    unfold isNm
    rw [e1, e2, e3, pk_un hne, pk_un hne]
    exact ⟨q1, q2⟩
theorem kq_namF {s : MS} (h : (mNam s).1 = false) : Kq L3 s (mNam s).2 := by
  have q := kq_letL 300 s
  revert h
  unfold mNam
  generalize mLetL 300 s = s1 at q
  unfold mNamE
  split
  · intro _; exact q.tr kq_wr
  · split
    · split
      · unfold mNamF
        split
        · intro _; exact q.tr kq_wr
        · unfold mNamG
          split
          · intro h; simp at h
          · intro h; simp at h
      · intro _; exact q.tr kq_wr
    · intro _; exact q.tr kq_wr
theorem kq_rng {s : MS} : Kq [3, 4, 5, 8, 9, 10] s (mRng s) := by
  have h1 : Kq [3, 4, 5, 8, 9, 10] s (mWord t_bytes s).2 := (kq_word _ _).mono (by decide)
  unfold mRng
  generalize (mWord t_bytes s).2 = s1 at h1
  unfold mRngG
  split
  · split
    · exact h1.tr ((Kq.wr (by decide)).tr ((Kq.wr (by decide)).tr ((kq_num.mono (by decide)).tr (Kq.wr (by decide)))))
    · have h2 : Kq [3, 4, 5, 8, 9, 10] s (mExp (wR (mNum s1 99999).2 9 (mNum s1 99999).1) 45).2 := h1.tr ((kq_num.mono (by decide)).tr ((Kq.wr (by decide)).tr (kq_exp.mono (by decide))))
      unfold mRngB
      generalize (mExp (wR (mNum s1 99999).2 9 (mNum s1 99999).1) 45).2 = s2 at h2
      unfold mRngC
      split
      · have h3 : Kq [3, 4, 5, 8, 9, 10] s (wR s2 8 2) := h2.tr (Kq.wr (by decide))
        unfold mRngK
        split
        · have h4 : Kq [3, 4, 5, 8, 9, 10] s (wR (mNum (wR s2 8 2) 99999).2 10 (mNum (wR s2 8 2) 99999).1) := h3.tr ((kq_num.mono (by decide)).tr (Kq.wr (by decide)))
          unfold mRngD
          split
          · exact h4.tr (Kq.wr (by decide))
          · exact h4.tr (Kq.wr (by decide))
        · exact h3
      · exact h2
  · exact h1
theorem kq_keyL : ∀ (k : Nat) (s : MS), Kq [3, 4, 5, 20] s (mKeyL k s) := by
  intro k
  induction k with
  | zero => intro s; exact Kq.rf
  | succ k ih =>
    intro s
    unfold mKeyL
    split
    · split
      · exact kq_wr.mono (by decide)
      · split
        · have h2 : Kq [3, 4, 5, 20] s (mNx (wR s 20 (gR s 20 ||| ((1 : Int32) <<< ((mSee s - 97) &&& 31))))) := (Kq.wr (by decide)).tr (Kq.wr (by decide))
          split
          · split
            · exact h2
            · exact h2.tr ((Kq.wr (by decide)).tr (ih _))
          · exact h2
        · exact kq_wr.mono (by decide)
    · exact Kq.rf
/-- the names stay -/
def Kn (s t : MS) : Prop := gTp t = gTp s ∧ gNf t = gNf s ∧ gNt t = gNt s ∧ gR t 26 = gR s 26
theorem Kn.tr {s t u : MS} (h : Kn s t) (g : Kn t u) : Kn s u := ⟨g.1.trans h.1, g.2.1.trans h.2.1, g.2.2.1.trans h.2.2.1, g.2.2.2.trans h.2.2.2⟩
theorem Kn.rf {s : MS} : Kn s s := ⟨rfl, rfl, rfl, rfl⟩
theorem Kq.kn {L : List Nat} {s t : MS} (h : Kq L s t) (hn : 26 ∉ L) : Kn s t := by
  obtain ⟨hr, hk⟩ := h
  exact ⟨by unfold gTp; rw [hr], by unfold gNf; rw [hr], by unfold gNt; rw [hr], hk 26 hn⟩
theorem kn_mtL : ∀ (k j : Nat) (s : MS), gR s 11 = nI j → j + k ≤ 8 → Kn s (mMtL k s) ∧ mB8 (mMtL k s) := by
  have hb : ∀ (j : Nat) (s : MS), gR s 11 = nI j → j ≤ 8 → mB8 s := by
    intro j s h hj
    unfold mB8
    rw [h, nI_toInt (by omega)]
    omega
  intro k
  induction k with
  | zero => intro j s h hj; exact ⟨Kn.rf, hb j s h (by omega)⟩
  | succ k ih =>
    intro j s h hj
    unfold mMtL
    split
    · have h1 : Kn s (mExp s 34).2 ∧ gR (mExp s 34).2 11 = nI j := ⟨kq_exp.kn (by decide), by rw [kq_exp.2 11 (by decide)]; exact h⟩
      generalize (mExp s 34).2 = s1 at h1
      have h2 : Kn s (mExp (mNum s1 99999).2 34).2 ∧ gR (mExp (mNum s1 99999).2 34).2 11 = nI j := ⟨h1.1.tr ((kq_num.kn (by decide)).tr (kq_exp.kn (by decide))), by rw [kq_exp.2 11 (by decide), kq_num.2 11 (by decide)]; exact h1.2⟩
      unfold mMtA
      generalize (mExp (mNum s1 99999).2 34).2 = s2 at h2
      unfold mMtB
      split
      · have h3 : Kn s (mMtP s2 (mNum s1 99999).1) ∧ gR (mMtP s2 (mNum s1 99999).1) 11 = nI (j + 1) := ⟨h2.1.tr ⟨rfl, rfl, rfl, rfl⟩, mt_nx h2.2⟩
        generalize mMtP s2 (mNum s1 99999).1 = s3 at h3
        unfold mMtC
        split
        · split
          · exact ⟨h3.1, hb _ _ h3.2 (by omega)⟩
          · have h4 : Kn s (mExp (mNx s3) 32).2 ∧ gR (mExp (mNx s3) 32).2 11 = nI (j + 1) := ⟨h3.1.tr ((kq_nx.kn (by decide)).tr (kq_exp.kn (by decide))), by rw [kq_exp.2 11 (by decide)]; exact h3.2⟩
            have h5 := ih (j + 1) _ h4.2 (by omega)
            exact ⟨h4.1.tr h5.1, h5.2⟩
        · exact ⟨h3.1, hb _ _ h3.2 (by omega)⟩
      · exact ⟨h2.1, hb _ _ h2.2 (by omega)⟩
    · exact ⟨Kn.rf, hb j s h (by omega)⟩
theorem kn_mat {s : MS} (h : gR s 11 = 0) : Kn s (mMat s) ∧ mB8 (mMat s) := by
  unfold mMat
  split
  · refine ⟨⟨rfl, rfl, rfl, rfl⟩, ?_⟩
    show 0 ≤ (gR s 11).toInt ∧ (gR s 11).toInt ≤ 8
    rw [h]
    decide
  · exact kn_mtL 8 0 s h (by omega)
theorem jv_linB {s : MS} {x : Int32} (hn : 1 ≤ (gR s 26).toInt) (hv : mInv s) (hj : jInv s) (hm : mNamed s t_if_none_match = true → gR s 11 = 0) : jInv (mLinB x s) := by
  have hz : ∀ t, jInv t → jInv (mLinZ t) := fun t ht => jv_kq kq_exp (by decide) (by decide) ht
  unfold mLinB
  split
  · split
    · exact hz _ (jv_kq (kq_lisL _ _ _) (by decide) (by decide) hj)
    · split
      · exact hz _ (jv_kq (L := [3, 4, 5, 19]) ((kq_num.mono (by decide)).tr (Kq.wr (by decide))) (by decide) (by decide) hj)
      · split
        · exact hz _ (jv_kq (kq_keyL _ _) (by decide) (by decide) hj)
        · exact hz _ (jv_kq (kq_anyL _ _) (by decide) (by decide) hj)
  · split
    · exact hz _ (jv_kq kq_rng (by decide) (by decide) hj)
    · split
      · rename_i q
        obtain ⟨⟨k1, k2, k3, k4⟩, k5⟩ := kn_mat (hm q)
        refine hz _ ⟨k5, Or.inr ⟨(gR s 26 - 1).toNatClampNeg, ?_, ?_⟩⟩
        · rw [k4]
          have e := nm_pr hv hn
          show (((gR s 26 - 1).toInt.toNat : Nat) : Int) < (gR s 26).toInt
          omega
        · unfold isNm
          rw [k1, k2, k3]
          unfold mNamed at q
          split at q
          · rename_i hl
            exact ⟨hl, q⟩
          · exact absurd q (by decide)
      · split
        · exact hz _ (jv_kq (kq_lisL _ _ _) (by decide) (by decide) hj)
        · exact hz _ (jv_kq (kq_anyL _ _) (by decide) (by decide) hj)
theorem jv_line {s : MS} {x : Int32} (hv : mInv s) (hj : jInv s) : jInv (mLine s x) := by
  unfold mLine
  split
  · split
    · rename_i hn
      exact jv_linB (nam_n hv hn) (inv_nam hv) (jv_nam hv hj hn) (fun q => mt_0 hv hj hn q)
    · rename_i hn
      exact jv_kq (kq_namF (by revert hn; cases (mNam s).1 <;> simp)) (by decide) (by decide) hj
  · exact jv_kq kq_wr (by decide) (by decide) hj
/-! the TEXT -/
def mRst (s : MS) : MS := wR (wR (wR (wR (wR (wR (wR (wR (wR (wR (wR (wR (wR (wR (wR (wR (wR (wR (wR s 3 0) 4 0) 26 0) 8 0) 11 0) 12 (-1)) 13 (-1)) 14 (-1)) 16 0) 17 0) 18 0) 15 0) 19 0) 20 0) 21 (-1)) 22 (-1)) 23 (-1)) 24 0) 25 0
def mTxtX (s : MS) : Bool × MS := if gR s 4 = 0 then (true, s) else (false, s)
def mTxtW (s : MS) : Bool × MS := if gR s 4 = 0 then mTxtX (wR s 2 (-1)) else mTxtX (wR s 2 (gR s 5))
def mTxtU (s : MS) : Bool × MS := if gR s 4 = 0 then (if gR s 1 ≤ gR s 3 then mTxtW (wR s 1 0) else mTxtW (wR (mWr s (gR s 3)) 1 0)) else mTxtW (wR s 1 0)
def mTxtE (s : MS) : Bool × MS := mTxtU (mExp s 10).2
def mTxtL : Nat → Int32 → MS → Bool × MS
  | 0, _, s => mTxtE s
  | k + 1, x, s => if gR s 4 = 0 then (if mSee s = 10 then mTxtE s else mTxtL k x (mLine s x)) else mTxtE s
abbrev mTxtB (s : MS) (x : Int32) : Bool × MS := mTxtL 301 x (mTgt s x)
def mTxtA (s : MS) (x : Int32) : Bool × MS := if x = 0 then mTxtB (mWord t_PUT s).2 x else if mSee s = 72 then mTxtB (wR (mWord t_HEAD s).2 15 1) x else mTxtB (mWord t_GET s).2 x
def mTxt (s : MS) (x : Int32) : Bool × MS := mTxtA (mRst s) x
/-- what holds between the TEXTS -/
def pInv (s : MS) : Prop := 0 ≤ (gR s 1).toInt ∧ (gR s 1).toInt ≤ 300 ∧ 0 ≤ (gR s 27).toInt ∧ (gR s 27).toInt ≤ 8
theorem inv_rst {s : MS} (hp : pInv s) : mInv (wR (wR (wR s 3 0) 4 0) 26 0) := by
  obtain ⟨h1, h2, -⟩ := hp
  refine ⟨Int.le_refl _, h1, h2, Int.le_refl _, Int.le_refl _, ?_⟩
  intro k hk
  exact absurd hk (show ¬ (k : Int) < 0 by omega)
theorem jv_rst {s : MS} : jInv (mRst s) := ⟨⟨Int.le_refl _, (by decide : (0 : Int32).toInt ≤ 8)⟩, Or.inl rfl⟩
theorem li_3 {s : MS} {x : Int32} {k : Nat} (hv : mInv s) (h0 : gR s 4 = 0) (hj : gR s 4 = 0 → (gR s 1).toInt + 1 ≤ (gR s 3).toInt + ((k + 1 : Nat) : Int)) : gR (mLine s x) 4 = 0 → (gR (mLine s x) 1).toInt + 1 ≤ (gR (mLine s x) 3).toInt + (k : Int) := by
  intro q
  obtain ⟨t, h1, h2, h3, h4⟩ := line_ad hv q
  exact li_2 h1 h2 h3 h4 (hj h0)
theorem jv_word {s : MS} (w : List Int32) (hj : jInv s) : jInv (mWord w s).2 := jv_kq (kq_word w s) (by decide) (by decide) hj
abbrev LT : List Nat := [3, 4, 5, 6, 7]
theorem kq_tgt {s : MS} {x : Int32} : Kq LT s (mTgt s x) := by
  have hC : ∀ t, Kq LT s t → Kq LT s (mTgtC t) := fun t ht => ht.tr (kq_exp.mono (by decide))
  have h1 : Kq LT s (wR (wR (mNum (mExp (mExp s 32).2 47).2 31).2 6 (mNum (mExp (mExp s 32).2 47).2 31).1) 7 0) := (kq_exp.mono (by decide)).tr ((kq_exp.mono (by decide)).tr ((kq_num.mono (by decide)).tr ((Kq.wr (by decide)).tr (Kq.wr (by decide)))))
  unfold mTgt
  generalize wR (wR (mNum (mExp (mExp s 32).2 47).2 31).2 6 (mNum (mExp (mExp s 32).2 47).2 31).1) 7 0 = s1 at h1
  unfold mTgtB
  split
  · split
    · exact hC _ h1
    · split
      · exact hC _ (h1.tr ((Kq.wr (by decide)).tr ((kq_num.mono (by decide)).tr (Kq.wr (by decide)))))
      · exact hC _ h1
  · exact hC _ h1
theorem jv_tgt {s : MS} {x : Int32} (hj : jInv s) : jInv (mTgt s x) := jv_kq kq_tgt (by decide) (by decide) hj
