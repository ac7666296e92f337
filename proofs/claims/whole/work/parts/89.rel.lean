/-! THE TWO STATES between the calls -/
def Rel (n : Nat) (d : DS) (s : MS) : Prop := pInv s ∧ TT (dT d) s ∧ dN d = gR s 28 ∧ 0 ≤ (gR s 28).toInt ∧ (gR s 28).toInt ≤ (n : Int) ∧ dL d = gR s 2 ∧ (gR s 28 ≠ 0 → Vk (dG d).1 (dG d).2 s)
theorem Rel.mono {n k : Nat} {d : DS} {s : MS} (h : Rel n d s) (hk : n ≤ k) : Rel k d s := by
  obtain ⟨hp, hT, hN, h0, hn, hL, hV⟩ := h
  exact ⟨hp, hT, hN, h0, by omega, hL, hV⟩
theorem rel_T {n : Nat} {d : DS} {s : MS} (h : Rel n d s) : (dT d).2 ≤ 300 ∧ 0 ≤ (dT d).2 ∧ pInv s := by
  obtain ⟨hp, hT, -⟩ := h
  have e3 : (300 : Int32).toInt = 300 := by decide
  refine ⟨?_, ?_, hp⟩
  · rw [hT.1, i_le, e3]; exact hp.2.1
  · rw [hT.1, i_le, i0]; exact hp.1
theorem rel_w0 {n : Nat} {d : DS} {s : MS} {y : Int32} (h : Rel n d s) : Rel n d (wR s 0 y) := h
theorem rel_fault {n : Nat} {d : DS} {s : MS} (h : Rel n d s) : dL d = (mFau s).1 ∧ Rel n d (mFau s).2 := ⟨h.2.2.2.2.2.1, rel_w0 h⟩
theorem rel_told {n : Nat} {d : DS} {s : MS} (h : Rel n d s) (x : Int32) : fTold d x = (mTold s x).1 ∧ Rel n d (mTold s x).2 := by
  have h' : Rel n d (wR s 0 0) := rel_w0 h
  unfold mTold
  generalize wR s 0 0 = t at h'
  obtain ⟨hp, hT, hN, h0, hn, hL, hV⟩ := id h'
  unfold mToldB fTold
  rw [hN]
  by_cases q1 : gR t 28 = 0
  · rw [if_pos q1, if_pos q1]; exact ⟨rfl, h'⟩
  · rw [if_neg q1, if_neg q1]
    unfold hGet
    by_cases q2 : x < 0
    · rw [if_pos q2, if_pos q2]; exact ⟨rfl, h'⟩
    · rw [if_neg q2, if_neg q2]
      have t17 : (17 : Int32).toInt = 17 := by decide
      have t18 : (18 : Int32).toInt = 18 := by decide
      by_cases q3 : x ≤ 17
      · have q3' : ¬ (18 : Int32) ≤ x := by rw [i_le] at q3 ⊢; omega
        rw [if_pos q3, if_neg q3']
        refine ⟨(hV q1).1 _ ?_, h'⟩
        rw [i_lt, i0] at q2
        rw [i_le] at q3
        show x.toInt.toNat < 18
        omega
      · have q3' : (18 : Int32) ≤ x := by rw [i_le] at q3 ⊢; omega
        rw [if_neg q3, if_pos q3']
        exact ⟨rfl, h'⟩
theorem mc_eq {s : MS} {x : Int32} : ∀ (r i : Nat) (t : Bool), mcL s x r i t = (t || hs (gKm s) x r i) := by
  intro r
  induction r with
  | zero => intro i t; cases t <;> rfl
  | succ r ih =>
    intro i t
    unfold mcL hs
    rw [ih]
    cases t with
    | true => simp
    | false =>
      by_cases q : gKm s i = x
      · rw [if_pos q]; simp [q]
      · rw [if_neg q]; simp [q]
theorem rel_mat {n : Nat} {d : DS} {s : MS} (h : Rel n d s) (x : Int32) : fMat d x = (mMch s x).1 ∧ Rel n d (mMch s x).2 := by
  have h' : Rel n d (wR s 0 0) := rel_w0 h
  unfold mMch
  generalize wR s 0 0 = t at h'
  obtain ⟨hp, hT, hN, h0, hn, hL, hV⟩ := id h'
  unfold mMchB fMat
  rw [hN]
  by_cases q1 : gR t 28 = 0
  · have q1' : gR t 28 ≤ 0 := by rw [q1]; decide
    rw [if_pos q1, if_pos q1']; exact ⟨rfl, h'⟩
  · have q1' : ¬ gR t 28 ≤ 0 := by
      rw [i_le, i0]
      rw [← Int32.toInt_inj, i0] at q1
      omega
    rw [if_neg q1, if_neg q1']
    refine ⟨?_, h'⟩
    obtain ⟨v1, ⟨m, m1, m2, m3, m4⟩, -⟩ := hV q1
    show (if hCov (dG d).1 (dG d).2 x = true then true else false) = mcL t x (gR t 27).toNatClampNeg 0 (if gKp t 6 = 1 then true else false)
    rw [mc_eq, m3, nI_clamp (by omega)]
    unfold hCov
    rw [v1 6 (by omega), show hHas (dG d).1 (dG d).2 x = hs (dG d).2 x m 0 from has_eq (by omega) m2 8 m 0 (by omega) (by omega), hs_ext m4 m 0 (by omega)]
    by_cases q2 : gKp t 6 = 1
    · rw [if_pos q2, if_pos q2]; simp
    · rw [if_neg q2, if_neg q2]
      cases hs (gKm t) x m 0 <;> simp
theorem rel_byt {n : Nat} {d : DS} {s : MS} (h : Rel n d s) (x y : Int32) : fByt d x y = (mByt s x y).1 ∧ Rel n d (mByt s x y).2 := by
  have h' : Rel n d (wR s 0 0) := rel_w0 h
  unfold mByt
  generalize wR s 0 0 = t at h'
  obtain ⟨hp, hT, hN, h0, hn, hL, hV⟩ := id h'
  have t255 : (255 : Int32).toInt = 255 := by decide
  have t2 : (2 : Int32).toInt = 2 := by decide
  have t3 : (3 : Int32).toInt = 3 := by decide
  unfold mBytB fByt
  rw [hN]
  by_cases q1 : gR t 28 = 0
  · rw [if_pos q1, if_pos q1]; exact ⟨rfl, h'⟩
  rw [if_neg q1, if_neg q1]
  by_cases q2 : x < 0
  · rw [if_pos q2, if_pos q2]; exact ⟨rfl, h'⟩
  rw [if_neg q2, if_neg q2]
  by_cases q3 : x ≤ 255
  case neg =>
    have q3' : 255 < x := by rw [i_le] at q3; rw [i_lt]; omega
    rw [if_neg q3, if_pos q3']; exact ⟨rfl, h'⟩
  have q3' : ¬ 255 < x := by rw [i_le] at q3; rw [i_lt]; omega
  rw [if_pos q3, if_neg q3']
  rw [i_lt, i0] at q2
  rw [i_le, t255] at q3
  obtain ⟨v1, -, g1, g2, g3⟩ := hV q1
  have e3 := v1 3 (by omega)
  have e4 := v1 4 (by omega)
  have e5 := v1 5 (by omega)
  -- the first one, and the end
  have hF : hFst (dG d).1 x = mFi t x ∧ 0 ≤ (mFi t x).toInt ∧ (mFi t x).toInt ≤ 99999 := by
    unfold hFst mFi
    rw [e3, e4]
    rcases g1 with z | z | z | z
    · rw [z, if_neg (by decide), if_neg (by decide), if_neg (by decide), if_pos rfl]; exact ⟨rfl, by decide⟩
    · have b := g2 (by rw [z]; decide)
      rw [z, if_pos rfl, if_neg (by decide), if_neg (by decide)]; exact ⟨rfl, b⟩
    · have b := g2 (by rw [z]; decide)
      rw [z, if_neg (by decide), if_pos rfl, if_neg (by decide), if_neg (by decide)]; exact ⟨rfl, b⟩
    · have b := g2 (by rw [z]; decide)
      rw [z, if_neg (by decide), if_neg (by decide), if_pos rfl, if_neg (by decide), if_pos (by decide)]
      unfold iMin
      by_cases w : x ≤ gKp t 4
      · rw [if_pos w]
        rw [i_le] at w
        refine ⟨?_, by decide⟩
        rw [← Int32.toInt_inj, i0]
        split
        · rw [Int32.toInt_sub, Int.bmod_eq_of_le (by omega) (by omega)]; omega
        · rename_i w2
          rw [i_lt] at w2
          rw [Int32.toInt_sub, Int.bmod_eq_of_le (by omega) (by omega)]; omega
      · rw [if_neg w]
        rw [i_le] at w
        have w2 : ¬ x < gKp t 4 := by rw [i_lt]; omega
        rw [if_neg w2]
        refine ⟨rfl, ?_⟩
        rw [Int32.toInt_sub, Int.bmod_eq_of_le (by omega) (by omega)]
        omega
  have hE : hLst (dG d).1 x = mEn t x - 1 ∧ 0 ≤ (mEn t x).toInt ∧ (mEn t x).toInt ≤ 255 := by
    unfold hLst mEn
    rw [e3, e5]
    by_cases z : gKp t 3 = 1
    · have b := g3 z
      rw [if_pos z, if_pos z]
      unfold iMin
      have ex : (x - 1).toInt = x.toInt - 1 := by rw [Int32.toInt_sub, i1, Int.bmod_eq_of_le (by omega) (by omega)]
      have eb : (gKp t 5 + 1).toInt = (gKp t 5).toInt + 1 := by rw [Int32.toInt_add, i1, Int.bmod_eq_of_le (by omega) (by omega)]
      by_cases w : x ≤ gKp t 5
      · have w2 : x - 1 < gKp t 5 := by rw [i_le] at w; rw [i_lt, ex]; omega
        rw [if_pos w, if_pos w2]
        exact ⟨rfl, Int.not_lt.mp q2, q3⟩
      · have w2 : ¬ x - 1 < gKp t 5 := by rw [i_le] at w; rw [i_lt, ex]; omega
        rw [if_neg w, if_neg w2]
        rw [i_le] at w
        refine ⟨(Int32.add_sub_cancel _ _).symm, by omega, by omega⟩
    · rw [if_neg z, if_neg z]
      exact ⟨rfl, Int.not_lt.mp q2, q3⟩
  have hM : byM d x = iMax 0 (mEn t x - mFi t x) := by
    show iMax 0 (hLst (dG d).1 x - hFst (dG d).1 x + 1) = _
    rw [hF.1, hE.1]
    congr 1
    rw [← Int32.toInt_inj]
    have b1 := hF.2
    have b2 := hE.2
    have c1 : (mEn t x - 1).toInt = (mEn t x).toInt - 1 := by rw [Int32.toInt_sub, i1, Int.bmod_eq_of_le (by omega) (by omega)]
    have c2 : (mEn t x - 1 - mFi t x).toInt = (mEn t x).toInt - 1 - (mFi t x).toInt := by rw [Int32.toInt_sub, c1, Int.bmod_eq_of_le (by omega) (by omega)]
    rw [Int32.toInt_add, c2, i1, Int32.toInt_sub, Int.bmod_eq_of_le (by omega) (by omega), Int.bmod_eq_of_le (by omega) (by omega)]
    omega
  have cs : (mEn t x - mFi t x).toInt = (mEn t x).toInt - (mFi t x).toInt := by
    have b1 := hF.2
    have b2 := hE.2
    rw [Int32.toInt_sub, Int.bmod_eq_of_le (by omega) (by omega)]
  rw [hM, hF.1, hE.1]
  have hres : (if y = 0 then (if iMax 0 (mEn t x - mFi t x) = 0 then -1 else mFi t x) else if y = 1 then (if iMax 0 (mEn t x - mFi t x) = 0 then -1 else mEn t x - 1) else if y = 2 then iMax 0 (mEn t x - mFi t x) else -1) = (if y < 0 then ((-1 : Int32), t) else if y ≤ 2 then mBytC t x y else (-1, t)).1 ∧ (if y < 0 then ((-1 : Int32), t) else if y ≤ 2 then mBytC t x y else (-1, t)).2 = t := by
    have hC2 : (mBytC t x y).2 = t := by unfold mBytC; split <;> (split <;> (try split) <;> rfl)
    refine ⟨?_, ?_⟩
    · by_cases w : mFi t x < mEn t x
      · have wp : (0 : Int32) < mEn t x - mFi t x := by rw [i_lt] at w ⊢; rw [cs, i0]; omega
        have wm : iMax 0 (mEn t x - mFi t x) = mEn t x - mFi t x := by unfold iMax; rw [if_pos wp]
        have wn : ¬ mEn t x - mFi t x = 0 := by rw [← Int32.toInt_inj, i0]; rw [i_lt, i0] at wp; omega
        rw [wm]
        by_cases y0 : y = 0
        · rw [if_pos y0, if_neg wn, y0, if_neg (by decide), if_pos (by decide)]
          unfold mBytC; rw [if_pos w, if_pos rfl]
        · rw [if_neg y0]
          by_cases y1 : y = 1
          · rw [if_pos y1, if_neg wn, y1, if_neg (by decide), if_pos (by decide)]
            unfold mBytC; rw [if_pos w, if_neg (by decide), if_pos rfl]
          · rw [if_neg y1]
            by_cases y2 : y = 2
            · rw [if_pos y2, y2, if_neg (by decide), if_pos (by decide)]
              unfold mBytC; rw [if_pos w, if_neg (by decide), if_neg (by decide)]
            · rw [if_neg y2]
              by_cases y3 : y < 0
              · rw [if_pos y3]
              · have y4 : ¬ y ≤ 2 := by
                  rw [← Int32.toInt_inj] at y0 y1 y2
                  rw [i0] at y0
                  rw [i1] at y1
                  rw [t2] at y2
                  rw [i_lt, i0] at y3
                  rw [i_le, t2]
                  omega
                rw [if_neg y3, if_neg y4]
      · have wp : ¬ (0 : Int32) < mEn t x - mFi t x := by rw [i_lt] at w ⊢; rw [cs, i0]; omega
        have wm : iMax 0 (mEn t x - mFi t x) = 0 := by unfold iMax; rw [if_neg wp]
        rw [wm, if_pos rfl]
        by_cases y0 : y = 0
        · rw [if_pos y0, y0, if_neg (by decide), if_pos (by decide)]
          unfold mBytC; rw [if_neg w, if_neg (by decide)]
        · rw [if_neg y0]
          by_cases y1 : y = 1
          · rw [if_pos y1, if_pos rfl, y1, if_neg (by decide), if_pos (by decide)]
            unfold mBytC; rw [if_neg w, if_neg (by decide)]
          · rw [if_neg y1]
            by_cases y2 : y = 2
            · rw [if_pos y2, y2, if_neg (by decide), if_pos (by decide)]
              unfold mBytC; rw [if_neg w, if_pos rfl]
            · rw [if_neg y2]
              by_cases y3 : y < 0
              · rw [if_pos y3]
              · have y4 : ¬ y ≤ 2 := by
                  rw [← Int32.toInt_inj] at y0 y1 y2
                  rw [i0] at y0
                  rw [i1] at y1
                  rw [t2] at y2
                  rw [i_lt, i0] at y3
                  rw [i_le, t2]
                  omega
                rw [if_neg y3, if_neg y4]
    · split
      · rfl
      · split
        · exact hC2
        · rfl
  refine ⟨hres.1, ?_⟩
  rw [hres.2]
  exact h'
/-! typing -/
theorem by_bits (x : BitVec 64) (n : Nat) (hn : n ≤ 56) : (x >>> n).setWidth 32 &&& 255#32 = ((x.sshiftRight n) &&& 255#64).setWidth 32 := by
  apply BitVec.eq_of_getLsbD_eq
  intro i hi
  have hm : ∀ i, i < 32 → (255#32).getLsbD i = decide (i < 8) ∧ (255#64).getLsbD i = decide (i < 8) := by decide +kernel
  rw [BitVec.getLsbD_and, BitVec.getLsbD_setWidth, BitVec.getLsbD_ushiftRight, BitVec.getLsbD_setWidth, BitVec.getLsbD_and, BitVec.getLsbD_sshiftRight, (hm i hi).1, (hm i hi).2]
  by_cases h8 : i < 8
  · have h1 : n + i < 64 := by omega
    have h2 : ¬ 64 ≤ i := by omega
    simp [h8, h1, h2, hi]
  · simp [h8]
theorem by_eq (w : Int64) {j : Nat} (hj : j < 8) : byW w (nI j) = byR w (nI j) := by
  have e1 : ∀ j, j < 8 → (((8 * nI j).toInt64.toUInt64 &&& Int64.toUInt64 63).toBitVec % 64).toNat = 8 * j := by decide +kernel
  have e2 : ∀ j, j < 8 → (((8 * nI j).toInt64 &&& 63).toBitVec.smod 64).toNat = 8 * j := by decide +kernel
  unfold byW byR
  apply Int32.toBitVec_inj.mp
  rw [Int32.toBitVec_and, Int64.toBitVec_toInt32, UInt64.toBitVec_toInt64, UInt64.toBitVec_shiftRight, Int64.toBitVec_toInt32, Int64.toBitVec_and, Int64.toBitVec_shiftRight]
  rw [BitVec.signExtend_eq_setWidth_of_le _ (by omega), BitVec.signExtend_eq_setWidth_of_le _ (by omega)]
  show BitVec.setWidth 32 (w.toBitVec >>> (((8 * nI j).toInt64.toUInt64 &&& Int64.toUInt64 63).toBitVec % 64).toNat) &&& 255#32 = BitVec.setWidth 32 (w.toBitVec.sshiftRight (((8 * nI j).toInt64 &&& 63).toBitVec.smod 64).toNat &&& 255#64)
  rw [e1 j hj, e2 j hj]
  exact by_bits _ _ (by omega)
theorem may_eq (c : Int32) : mayS c = mayR c := by
  unfold mayS mayR
  by_cases q1 : c = 10
  · rw [if_pos q1, if_pos q1]
  · rw [if_neg q1, if_neg q1]
    by_cases q2 : c < 32
    · rw [if_pos q2, if_pos q2]
    · rw [if_neg q2, if_neg q2]
      by_cases q3 : c ≤ 126
      · have q3' : ¬ 126 < c := by rw [i_le] at q3; rw [i_lt]; omega
        rw [if_pos q3, if_neg q3']
      · have q3' : 126 < c := by rw [i_le] at q3; rw [i_lt]; omega
        rw [if_neg q3, if_pos q3']
theorem may_b {c : Int32} (h : mayS c = true) : 10 ≤ c.toInt ∧ c.toInt ≤ 126 := by
  have t10 : (10 : Int32).toInt = 10 := by decide
  have t32 : (32 : Int32).toInt = 32 := by decide
  have t126 : (126 : Int32).toInt = 126 := by decide
  unfold mayS at h
  split at h
  · rename_i q; rw [q, t10]; omega
  · split at h
    · exact absurd h (by decide)
    · rename_i q2
      split at h
      · exact absurd h (by decide)
      · rename_i q3
        rw [i_lt] at q2 q3
        omega
theorem ok_eq {w : Int64} : ∀ (k i : Nat), i + k ≤ 8 → appOk w k i = tyOk w k i := by
  intro k
  induction k with
  | zero => intro i _; rfl
  | succ k ih =>
    intro i hi
    unfold appOk tyOk
    rw [by_eq w (by omega), may_eq, ih (i + 1) (by omega)]
theorem ok_ch {w : Int64} : ∀ (k i : Nat), appOk w k i = true → ∀ j, i ≤ j → j < i + k → mayS (byW w (nI j)) = true := by
  intro k
  induction k with
  | zero => intro i _ j h1 h2; omega
  | succ k ih =>
    intro i h j h1 h2
    unfold appOk at h
    split at h
    · rename_i q
      by_cases z : j = i
      · rw [z]; exact q
      · exact ih (i + 1) h j (by omega) (by omega)
    · exact absurd h (by decide)
theorem nar_c {c : Int32} (h0 : 0 ≤ c.toInt) (h1 : c.toInt < 65536) : vp_nar .char (c.toUInt32 % 65536).toInt32 = c := by
  rw [lg_i2c_word h0 h1]
  exact lg_i2c_word h0 h1
theorem ty_eq {w : Int64} : ∀ (k : Nat) (T : TX) (s : MS), TT T s → 0 ≤ (gR s 1).toInt → (gR s 1).toInt + (k : Int) ≤ 300 → k ≤ 8 → (∀ j, j < k → mayS (byW w (nI j)) = true) → TT (appW w k T) (tyW w k s) ∧ 0 ≤ (gR (tyW w k s) 1).toInt ∧ (gR (tyW w k s) 1).toInt ≤ 300 ∧ gKp (tyW w k s) = gKp s ∧ gKm (tyW w k s) = gKm s ∧ ∀ q, q ≠ 1 → gR (tyW w k s) q = gR s q := by
  intro k
  induction k with
  | zero =>
    intro T s hT h0 h1 _ _
    exact ⟨hT, h0, by show (gR s 1).toInt ≤ 300; omega, rfl, rfl, fun _ _ => rfl⟩
  | succ k ih =>
    intro T s hT h0 h1 hk hc
    obtain ⟨b1, b2⟩ := may_b (hc k (by omega))
    have e1 : (gR s 1 + 1).toInt = (gR s 1).toInt + 1 := by rw [Int32.toInt_add, i1, Int.bmod_eq_of_le (by omega) (by omega)]
    have hm1 : (-1 : Int32).toInt = -1 := by decide
    unfold appW tyW
    have hT2 : TT (upd T.1 T.2.toNatClampNeg (vp_nar .char ((byW w (nI k)).toUInt32 % 65536).toInt32), T.2 + 1) (wR (wTp s (upd (gTp s) (gR s 1).toNatClampNeg (byR w (nI k)))) 1 (gR s 1 + 1)) := by
      refine ⟨by show T.2 + 1 = gR s 1 + 1; rw [hT.1], fun i hi => ?_⟩
      have hi2 : (i : Int) < (gR s 1 + 1).toInt := hi
      rw [e1] at hi2
      show upd T.1 T.2.toNatClampNeg (vp_nar .char ((byW w (nI k)).toUInt32 % 65536).toInt32) i = upd (gTp s) (gR s 1).toNatClampNeg (byR w (nI k)) i ∧ ¬ upd (gTp s) (gR s 1).toNatClampNeg (byR w (nI k)) i = -1
      rw [hT.1, nar_c (by omega) (by omega), by_eq w (by omega)]
      by_cases z : i = (gR s 1).toNatClampNeg
      · rw [z, pk_us, pk_us, ← by_eq w (by omega)]
        refine ⟨rfl, fun q => ?_⟩
        rw [q, hm1] at b1
        omega
      · rw [pk_un z, pk_un z]
        have z' : ¬ i = (gR s 1).toInt.toNat := z
        exact hT.2 i (by omega)
    have h3 := ih _ _ hT2 (by show 0 ≤ (gR s 1 + 1).toInt; omega) (by show (gR s 1 + 1).toInt + (k : Int) ≤ 300; omega) (by omega) (fun j hj => hc j (by omega))
    refine ⟨h3.1, h3.2.1, h3.2.2.1, h3.2.2.2.1, h3.2.2.2.2.1, fun q hq => (h3.2.2.2.2.2 q hq).trans ?_⟩
    show (if q = 1 then _ else s.1 q) = s.1 q
    rw [if_neg hq]
theorem vk_eq {v r : Nat → Int32} {s t : MS} (h1 : gKp t = gKp s) (h2 : gKm t = gKm s) (h3 : gR t 27 = gR s 27) (h : Vk v r s) : Vk v r t := by
  unfold Vk
  rw [h1, h2, h3]
  exact h
theorem rel_type {n : Nat} {d : DS} {s : MS} (h : Rel n d s) (q : Int64) (x : Int32) : (fApp (dT d) q x).1 = (mTyp s q x).1 ∧ Rel n (uT d (fApp (dT d) q x).2) (mTyp s q x).2 := by
  have h' : Rel n d (wR s 0 0) := rel_w0 h
  unfold mTyp
  generalize wR s 0 0 = t at h'
  obtain ⟨hp, hT, hN, h0, hn, hL, hV⟩ := id h'
  have hu : Rel n (uT d (dT d)) t := h'
  unfold fApp mTypB
  by_cases q1 : x < 1
  · rw [if_pos q1, if_pos q1]; exact ⟨rfl, hu⟩
  rw [if_neg q1, if_neg q1]
  by_cases q2 : 8 < x
  · rw [if_pos q2, if_pos q2]; exact ⟨rfl, hu⟩
  rw [if_neg q2, if_neg q2]
  have t8 : (8 : Int32).toInt = 8 := by decide
  have t300 : (300 : Int32).toInt = 300 := by decide
  have c1 := q1
  have c2 := q2
  rw [i_lt, i1] at c1
  rw [i_lt, t8] at c2
  obtain ⟨p1, p2, p3, p4⟩ := id hp
  have ea : (gR t 1 + x).toInt = (gR t 1).toInt + x.toInt := by rw [Int32.toInt_add, Int.bmod_eq_of_le (by omega) (by omega)]
  have eb : (300 - (dT d).2).toInt = 300 - (gR t 1).toInt := by rw [hT.1, Int32.toInt_sub, t300, Int.bmod_eq_of_le (by omega) (by omega)]
  by_cases q3 : gR t 1 + x ≤ 300
  case neg =>
    have q3' : ¬ x ≤ 300 - (dT d).2 := by rw [i_le, ea, t300] at q3; rw [i_le, eb]; omega
    rw [if_neg q3, if_neg q3']; exact ⟨rfl, hu⟩
  have q3' : x ≤ 300 - (dT d).2 := by rw [i_le, ea, t300] at q3; rw [i_le, eb]; omega
  obtain ⟨s1, s2, s3⟩ := ty_st hp q1 q2 q3
  rw [if_pos q3, if_pos q3', ok_eq _ 0 (by omega)]
  by_cases q4 : tyOk q x.toNatClampNeg 0 = true
  · rw [if_pos q4, if_pos q4]
    have hch := ok_ch x.toNatClampNeg 0 ((ok_eq _ 0 (by omega)).trans q4)
    obtain ⟨r1, r2, r3, r4, r5, r6⟩ := ty_eq (w := q) x.toNatClampNeg (dT d) t hT p1 s1 s3 (fun j hj => hch j (by omega) (by omega))
    refine ⟨rfl, ⟨⟨r2, r3, ?_, ?_⟩, r1, ?_, ?_, ?_, ?_, ?_⟩⟩
    · rw [r6 27 (by decide)]; exact p3
    · rw [r6 27 (by decide)]; exact p4
    · show dN d = _; rw [r6 28 (by decide)]; exact hN
    · rw [r6 28 (by decide)]; exact h0
    · rw [r6 28 (by decide)]; exact hn
    · show dL d = _; rw [r6 2 (by decide)]; exact hL
    · rw [r6 28 (by decide)]
      intro z
      exact vk_eq r4 r5 (r6 27 (by decide)) (hV z)
  · rw [if_neg q4, if_neg q4]
    exact ⟨rfl, hu⟩
/-! reading -/
theorem rd_core {n : Nat} {d : DS} {s : MS} (h : Rel n d s) {kd y : Int32} (hx : (y = 0 ∧ kd = 1) ∨ (¬ y = 0 ∧ kd = 0)) (hn2 : n < 100000) : ((fRdB d kd).1 = true → gR (mRdB s y).2 0 = 0 ∧ dN (fRdB d kd).2 = (mRdB s y).1 ∧ Rel (n + 1) (fRdB d kd).2 (mRdB s y).2) ∧ ((fRdB d kd).1 = false → gR (mRdB s y).2 0 = 1 ∧ Rel (n + 1) (fRdB d kd).2 (mRdB s y).2) := by
  obtain ⟨hp, hT, hN, h0, hn, hL, hV⟩ := h
  obtain ⟨t1, t2, t3⟩ := ok_txt (st := dS d) hp hT hx
  obtain ⟨⟨k1, k2, k3, k4, k5⟩, k6⟩ := txt_k (x := y) (s := s)
  unfold fRdB mRdB fRdC
  generalize fTxt (dT d) (dS d) kd = q at t1 t2 t3
  generalize mTxt s y = p at t1 t2 t3 k1 k2 k3 k4 k5 k6
  cases hq : q.1 with
  | true =>
    rw [hq] at t1
    rw [if_pos rfl, if_pos t1]
    refine ⟨fun _ => ?_, fun z => absurd z (by simp)⟩
    have hv := vl_kz (s := p.2) (t := wR p.2 0 0) (((Kq.wr (L := [0]) (by decide)).kz).mono (by decide)) (t3 hq)
    obtain ⟨vk, r1, r2, r28, r0, r27⟩ := keep_ok hv
    have a1 : gR (wR p.2 0 0) 1 = 0 := k6
    have a2 : gR (wR p.2 0 0) 2 = rSk q.2 := t2
    have a28 : gR (wR p.2 0 0) 28 = gR s 28 := k5
    have a0 : gR (wR p.2 0 0) 0 = 0 := rfl
    rw [a1] at r1
    rw [a2] at r2
    rw [a28] at r28
    rw [a0] at r0
    generalize mKeep (wR p.2 0 0) y = sk at vk r1 r2 r28 r0 r27
    obtain ⟨w1, ⟨m, m1, m2, m3, m4⟩, w3⟩ := id vk
    have e28 : (gR s 28 + 1).toInt = (gR s 28).toInt + 1 := by rw [Int32.toInt_add, i1, Int.bmod_eq_of_le (by omega) (by omega)]
    unfold mRdC mRdD
    rw [r28]
    refine ⟨r0, ?_, ⟨⟨?_, ?_, ?_, ?_⟩, ⟨?_, ?_⟩, ?_, ?_, ?_, ?_, ?_⟩⟩
    · show dN d + 1 = gR s 28 + 1; rw [hN]
    · show 0 ≤ (gR sk 1).toInt; rw [r1]; decide
    · show (gR sk 1).toInt ≤ 300; rw [r1]; decide
    · show 0 ≤ (gR sk 27).toInt; rw [m3, nI_toInt (by omega)]; omega
    · show (gR sk 27).toInt ≤ 8; rw [m3, nI_toInt (by omega)]; omega
    · show (0 : Int32) = gR sk 1; rw [r1]
    · intro i hi
      have hi2 : (i : Int) < (gR sk 1).toInt := hi
      rw [r1, i0] at hi2
      omega
    · show dN d + 1 = gR s 28 + 1; rw [hN]
    · show 0 ≤ (gR s 28 + 1).toInt; omega
    · show (gR s 28 + 1).toInt ≤ ((n + 1 : Nat) : Int); omega
    · show rSk q.2 = gR sk 2; rw [r2]
    · intro _
      show Vk (rVs q.2) (rVr q.2) (wR sk 28 (gR s 28 + 1))
      exact vk
  | false =>
    rw [hq] at t1
    have t1' : ¬ p.1 = true := by rw [t1]; decide
    rw [if_neg Bool.false_ne_true, if_neg t1']
    refine ⟨fun z => absurd z (by simp), fun _ => ⟨rfl, ⟨⟨?_, ?_, ?_, ?_⟩, ⟨?_, ?_⟩, ?_, ?_, ?_, ?_, ?_⟩⟩⟩
    · show 0 ≤ (gR p.2 1).toInt; rw [k6]; decide
    · show (gR p.2 1).toInt ≤ 300; rw [k6]; decide
    · show 0 ≤ (gR p.2 27).toInt; rw [k4]; exact hp.2.2.1
    · show (gR p.2 27).toInt ≤ 8; rw [k4]; exact hp.2.2.2
    · show (0 : Int32) = gR p.2 1; rw [k6]
    · intro i hi
      have hi2 : (i : Int) < (gR p.2 1).toInt := hi
      rw [k6, i0] at hi2
      omega
    · show dN d = gR p.2 28; rw [k5]; exact hN
    · show 0 ≤ (gR p.2 28).toInt; rw [k5]; exact h0
    · show (gR p.2 28).toInt ≤ ((n + 1 : Nat) : Int); rw [k5]; omega
    · show rSk q.2 = gR p.2 2; rw [t2]
    · intro z
      have z' : gR s 28 ≠ 0 := by rw [← k5]; exact z
      show Vk (dG d).1 (dG d).2 (wR p.2 0 1)
      exact vk_eq (s := s) (t := wR p.2 0 1) k1 k2 k4 (hV z')
theorem rel_read {n : Nat} {d : DS} {s : MS} (h : Rel n d s) (x : Int32) (hn : n < 100000) : ((fRd d x).1 = true → gR (mRead s x).2 0 = 0 ∧ dN (fRd d x).2 = (mRead s x).1 ∧ Rel (n + 1) (fRd d x).2 (mRead s x).2) ∧ ((fRd d x).1 = false → gR (mRead s x).2 0 = 1 ∧ Rel (n + 1) (fRd d x).2 (mRead s x).2) := by
  by_cases q0 : x = 0
  · have e1 : fRd d x = fRdB d x := by unfold fRd; rw [if_pos q0]
    have e2 : mRead s x = mRdB s 1 := by unfold mRead; rw [q0, if_neg (by decide), if_neg (by decide), if_pos rfl]
    rw [e1, e2]
    exact rd_core h (Or.inr ⟨by decide, q0⟩) hn
  · by_cases q1 : x = 1
    · have e1 : fRd d x = fRdB d x := by unfold fRd; rw [if_neg q0, if_pos q1]
      have e2 : mRead s x = mRdB s 0 := by unfold mRead; rw [q1, if_neg (by decide), if_neg (by decide), if_neg (by decide)]
      rw [e1, e2]
      exact rd_core h (Or.inl ⟨rfl, q1⟩) hn
    · have e1 : fRd d x = (false, d) := by unfold fRd; rw [if_neg q0, if_neg q1]
      have e2 : mRead s x = (0, wR s 0 1) := by
        unfold mRead
        by_cases z : x < 0
        · rw [if_pos z]
        · have z2 : 1 < x := by
            rw [← Int32.toInt_inj] at q0 q1
            rw [i0] at q0
            rw [i1] at q1
            rw [i_lt, i0] at z
            rw [i_lt, i1]
            omega
          rw [if_neg z, if_pos z2]
      rw [e1, e2]
      exact ⟨fun z => absurd z (by simp), fun _ => ⟨rfl, Rel.mono (rel_w0 h) (by omega)⟩⟩
