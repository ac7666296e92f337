/-! NAMES and WORDS, alike -/
def Nr (st : RS) (s : MS) : Prop := rNm st = gR s 26 ∧ ∀ k : Nat, (k : Int) < (gR s 26).toInt → rNs st k = gNf s k ∧ rNe st k = gNt s k
/-- the rows of matches and what is kept stay, and the registers outside L -/
def Kz (L : List Nat) (s t : MS) : Prop := gMt t = gMt s ∧ gKp t = gKp s ∧ gKm t = gKm s ∧ ∀ k, k ∉ L → gR t k = gR s k
theorem Kz.rf {L : List Nat} {s : MS} : Kz L s s := ⟨rfl, rfl, rfl, fun _ _ => rfl⟩
theorem Kz.tr {L : List Nat} {s t u : MS} (h : Kz L s t) (g : Kz L t u) : Kz L s u := ⟨g.1.trans h.1, g.2.1.trans h.2.1, g.2.2.1.trans h.2.2.1, fun k hk => (g.2.2.2 k hk).trans (h.2.2.2 k hk)⟩
theorem Kz.mono {L L' : List Nat} {s t : MS} (h : Kz L s t) (hL : ∀ k ∈ L, k ∈ L') : Kz L' s t := ⟨h.1, h.2.1, h.2.2.1, fun k hk => h.2.2.2 k (fun q => hk (hL k q))⟩
theorem Kq.kz {L : List Nat} {s t : MS} (h : Kq L s t) : Kz L s t := ⟨by unfold gMt; rw [h.1], by unfold gKp; rw [h.1], by unfold gKm; rw [h.1], h.2⟩
theorem sp_i {a b : Int32} {j : Nat} (h : sp_ok a b) (hj : j < (b - a).toNatClampNeg) : 0 ≤ (a + nI j).toInt ∧ (a + nI j).toInt < b.toInt := by
  obtain ⟨h1, h2, h3⟩ := h
  have e : (b - a).toInt = b.toInt - a.toInt := by rw [Int32.toInt_sub, Int.bmod_eq_of_le (by omega) (by omega)]
  have hj' : j < (b - a).toInt.toNat := hj
  rw [e] at hj'
  have e2 : (a + nI j).toInt = a.toInt + j := by rw [Int32.toInt_add, nI_toInt (by omega), Int.bmod_eq_of_le (by omega) (by omega)]
  omega
theorem eqL_eqM {T : TX} {s : MS} {a b c d : Int32} (g : TT T s) (h1 : sp_ok a b) (h2 : sp_ok c d) (e1 : b.toInt ≤ (gR s 1).toInt) (e2 : d.toInt ≤ (gR s 1).toInt) : ∀ (n j : Nat), j + n ≤ (b - a).toNatClampNeg → j + n ≤ (d - c).toNatClampNeg → eqL T c a n j = eqM (gTp s) a c n j := by
  intro n
  induction n with
  | zero => intro j _ _; rfl
  | succ n ih =>
    intro j q1 q2
    unfold eqL eqM
    have p1 := sp_i h1 (j := j) (by omega)
    have p2 := sp_i h2 (j := j) (by omega)
    rw [mAt_see g p1.1 (by omega), mAt_see g p2.1 (by omega), ih (j + 1) (by omega) (by omega)]
    by_cases q : gTp s (c + nI j).toNatClampNeg = gTp s (a + nI j).toNatClampNeg
    · rw [if_pos q, if_pos q.symm]
    · rw [if_neg q, if_neg (fun z => q z.symm)]
theorem isF_eq {T : TX} {st : RS} {s : MS} {a b c d : Int32} (g : TT T s) (h1 : sp_ok a b) (h2 : sp_ok c d) (e1 : b.toInt ≤ (gR s 1).toInt) (e2 : d.toInt ≤ (gR s 1).toInt) (w1 : rWs st = c) (w2 : rWe st = d) : fIsF T st a b = mSame (gTp s) a b c d := by
  unfold fIsF mSame
  rw [w1, w2]
  by_cases q : b - a = d - c
  · rw [if_pos q.symm, if_pos q]
    exact eqL_eqM g h1 h2 e1 e2 _ 0 (by omega) (by rw [← q]; omega)
  · rw [if_neg (fun z => q z.symm), if_neg q]
theorem was_eq {T : TX} {st : RS} {s : MS} {c : Int32} (g : TT T s) (hv : mInv s) (hn : Nr st s) (h2 : sp_ok c (gR s 3)) (w1 : rWs st = c) (w2 : rWe st = gR s 3) : ∀ (k r i : Nat), i + r = (gR s 26).toNatClampNeg → r ≤ k → wasL T st k i = mDup s c r i := by
  intro k
  induction k with
  | zero =>
    intro r i _ hr
    obtain rfl : r = 0 := by omega
    rfl
  | succ k ih =>
    intro r i hi hr
    have hb : (gR s 26).toNatClampNeg < 2 ^ 31 := cl_le _
    unfold wasL
    rw [hn.1]
    cases r with
    | zero =>
      rw [if_pos (nI_cyes (by omega) (by omega))]
      rfl
    | succ r =>
      rw [if_neg (nI_cno (by omega))]
      have hk := (nm_lt hv (j := i) (by omega)).2
      obtain ⟨e1, e2⟩ := hn.2 i hk
      have hs := sp_nm hv hk
      rw [e1, e2, isF_eq g hs h2 (hv.2.2.2.2.2 i hk).2.2 hv.2.1 w1 w2, ih r (i + 1) (by omega) (by omega)]
      rfl
theorem weq {T : TX} {s : MS} {a b : Int32} (g : TT T s) (h1 : sp_ok a b) (e1 : b.toInt ≤ (gR s 1).toInt) : ∀ (w : List Int32) (j : Nat), j + w.length ≤ (b - a).toNatClampNeg → wEq T a w j = wEqM (gTp s) a w j := by
  intro w
  induction w with
  | nil => intro j _; rfl
  | cons c cs ih =>
    intro j hj
    rw [List.length_cons] at hj
    have p1 := sp_i h1 (j := j) (by omega)
    unfold wEq wEqM
    rw [mAt_see g p1.1 (by omega), ih (j + 1) (by omega)]
theorem isw_eq {T : TX} {s : MS} {a b : Int32} {w : List Int32} (g : TT T s) (h1 : sp_ok a b) (e1 : b.toInt ≤ (gR s 1).toInt) (hl : w.length < 2 ^ 31) : (if b - a = nI w.length then wEq T a w 0 else false) = (if b - a = nI w.length then wEqM (gTp s) a w 0 else false) := by
  by_cases q : b - a = nI w.length
  · rw [if_pos q, if_pos q]
    exact weq g h1 e1 w 0 (by rw [q, nI_clamp hl]; omega)
  · rw [if_neg q, if_neg q]
theorem isW_nm {T : TX} {st : RS} {s : MS} {w : List Int32} (g : TT T s) (hv : mInv s) (hn : 1 ≤ (gR s 26).toInt) (w1 : rWs st = nA s) (w2 : rWe st = nB s) (hl : w.length < 2 ^ 31) : fIsW T st w = mNamed s w := by
  unfold fIsW mNamed
  rw [w1, w2]
  refine isw_eq g (nm_ok hv hn) ?_ hl
  have e := nm_pr hv hn
  obtain ⟨h1, h2, h3, h4, h5, h6⟩ := hv
  exact (h6 (gR s 26 - 1).toInt.toNat (by omega)).2.2
theorem isW_wd {T : TX} {st : RS} {s : MS} {w : List Int32} (g : TT T s) (h : sp_ok (gR s 29) (gR s 30)) (h2 : (gR s 30).toInt ≤ (gR s 1).toInt) (w1 : rWs st = gR s 29) (w2 : rWe st = gR s 30) (hl : w.length < 2 ^ 31) : fIsW T st w = mIsW s w := by
  unfold fIsW mIsW
  rw [w1, w2]
  exact isw_eq g h h2 hl
/-- a NAME comes once -/
theorem once {s : MS} {w : List Int32} {k : Nat} (hv : mInv s) (hk : (k : Int) < (gR s 26).toInt) (hi : isNm s k w) (hw : w.length < 2 ^ 31) (h : (mNam s).1 = true) (hn : mNamed (mNam s).2 w = true) : False := by
  obtain ⟨e1, e2, e3, e4, e5⟩ := nam_rows h
  obtain ⟨a1, a2, -⟩ := nam_AB hv h
  obtain ⟨q1, q2⟩ := hi
  have ql := kq_letL 300 s
  obtain ⟨-, -, -, hd, -⟩ := nam_ok h
  apply hd
  unfold mNamed at hn
  split at hn
  · rename_i hl
    rw [a1, a2] at hl
    rw [a1, e1] at hn
    refine dup_of _ 0 k (by omega) ?_ ?_
    · rw [ql.2 26 (by decide)]
      show k < 0 + (gR s 26).toInt.toNat
      omega
    · have f1 : gNf (mLetL 300 s) = gNf s := by unfold gNf; rw [ql.1]
      have f2 : gNt (mLetL 300 s) = gNt s := by unfold gNt; rw [ql.1]
      have f3 : gTp (mLetL 300 s) = gTp s := by unfold gTp; rw [ql.1]
      rw [f1, f2, f3]
      exact same_of (w := w) hw q1 q2 hl hn
  · exact absurd hn (by decide)
/-- behind a NAME and its blank -/
def NaP (T : TX) (st : RS) (s : MS) (st' : RS) (s' : MS) : Prop := Co T (fSkip T st' 32).2 s' ∧ Nr (fSkip T st' 32).2 s' ∧ rKd st' = rKd st ∧ rVs st' = rVs st ∧ rVr st' = rVr st ∧ rWs st' = nA s' ∧ rWe st' = nB s' ∧ (gR s 3).toInt + 2 ≤ (gR s' 3).toInt ∧ gR s' 26 = gR s 26 + 1
theorem ok_nam {T : TX} {st : RS} {s : MS} (h : Co T st s) (hn : Nr st s) (h3 : 3 * (gR s 26).toInt ≤ (gR s 3).toInt) : Ok (NaP T st s) (fNam T st) (mNam s).2 := by
  have hv := h.2.2.1
  have hg : (mNam s).1 = true → (gR s 3).toInt + 2 ≤ (gR (mNam s).2 3).toInt := by
    intro hh
    obtain ⟨q1, q2, q3, q4, q5⟩ := nam_ok hh
    have hv1 := inv_letL 300 s hv
    have ha := (ad_letL 300 s hv).2
    have hi := nam_inv hv hh
    have hs := see_lt q3 (by decide)
    rw [← Int32.toInt_inj] at q1
    rw [i_le] at hs
    obtain ⟨b1, b2, b3, -⟩ := id hv1
    have e : (gR (mAddN (mLetL 300 s) (gR s 3)) 3).toInt = (gR (mLetL 300 s) 3).toInt + 1 := by
      show (gR (mLetL 300 s) 3 + 1).toInt = _
      rw [Int32.toInt_add, i1, Int.bmod_eq_of_le (by omega) (by omega)]
    have g := (g_namG (s := mAddN (mLetL 300 s) (gR s 3)) ⟨hi, Ad.rf⟩).2.2
    rw [q5]
    omega
  unfold fNam
  rcases ok_let (n := 20) h (by omega) with ⟨c1, c2, c3⟩ | ⟨c1, c2, c3, c4, c5, c6⟩ | ⟨c1, c2, c3, c4⟩
  · rw [bnd_f c2]
    have e : mNam s = (false, mWr (mLetL 300 s) (gR (mLetL 300 s) 3)) := by unfold mNam mNamE; rw [if_pos c1]
    have hb : gR (mLetL 300 s) 4 = 0 := by rw [(letL_keep 300 s hv).2.2]; exact h.2.1
    rw [e]
    exact Or.inr ⟨rfl, (bad_wr hb).1, (bad_wr hb).2.trans (c1.trans c3.symm)⟩
  · rw [bnd_t c3]
    generalize fLet T st 20 = q at c3 c4 c5 c6
    have hc := c4.1
    by_cases c7 : mSee (mLetL 300 s) = 58
    · rw [(take_t hc c7).1, bnd_t rfl]
      have hn1 : Nr q.2 (mLetL 300 s) := by
        obtain ⟨f1, f2, f3, f4, f5, f6⟩ := c4.2.1
        have ek := c4.2.2
        have g1 : gNf (mLetL 300 s) = gNf s := by unfold gNf; rw [ek.1]
        have g2 : gNt (mLetL 300 s) = gNt s := by unfold gNt; rw [ek.1]
        unfold Nr
        rw [f1, f3, f4, g1, g2, ek.2 26 (by decide)]
        exact hn
      have hsp : sp_ok (gR s 3) (gR (mLetL 300 s) 3) := sp_at hc.2.2.1 hv.1 (ad_letL 300 s hv).2
      have hw : fWas T (nxt q.2) = mDup (mLetL 300 s) (gR s 3) (gR (mLetL 300 s) 26).toNatClampNeg 0 := by
        refine was_eq (st := nxt q.2) hc.2.2.2.1 hc.2.2.1 hn1 hsp c5 c6 100 _ 0 (by omega) ?_
        have e26 : gR (mLetL 300 s) 26 = gR s 26 := c4.2.2.2 26 (by decide)
        rw [e26]
        show (gR s 26).toInt.toNat ≤ 100
        obtain ⟨a1, a2, a3, -⟩ := id hv
        omega
      have h100 : ¬ (100 : Int32) ≤ rNm (nxt q.2) := by
        have e : rNm (nxt q.2) = gR s 26 := c4.2.1.1.trans hn.1
        rw [e, i_le]
        have t : (100 : Int32).toInt = 100 := by decide
        have hs := see_lt c7 (by decide)
        rw [i_le] at hs
        rw [← Int32.toInt_inj] at c1
        have ha := (ad_letL 300 s hv).2
        obtain ⟨b1, b2, b3, -⟩ := id hc.2.2.1
        rw [t]
        omega
      have e1 : mNam s = mNamF (mLetL 300 s) (gR s 3) := by
        unfold mNam mNamE
        rw [if_neg c1, if_pos (show gR (mLetL 300 s) 3 - gR s 3 ≤ 20 from c2), if_pos c7]
      show Ok (NaP T st s) (fNamE T (nxt q.2)) (mNam s).2
      unfold fNamE
      rw [if_neg h100, hw]
      by_cases c8 : mDup (mLetL 300 s) (gR s 3) (gR (mLetL 300 s) 26).toNatClampNeg 0 = true
      · rw [if_pos c8]
        have e2 : mNam s = (false, mWr (mLetL 300 s) (gR s 3)) := by rw [e1]; unfold mNamF; rw [if_pos c8]
        rw [e2]
        exact Or.inr ⟨rfl, (bad_wr hc.2.1).1, (bad_wr hc.2.1).2.trans c5.symm⟩
      · rw [if_neg c8]
        have e2 : mNam s = mNamG (mAddN (mLetL 300 s) (gR s 3)) := by rw [e1]; unfold mNamF; rw [if_neg c8]
        have ht : (mNam s).1 = true := by rw [e2]; unfold mNamG; split <;> rfl
        have hi := nam_inv hv ht
        have hC : Co T (addN (nxt q.2)) (mAddN (mLetL 300 s) (gR s 3)) := ⟨by show rPl q.2 + 1 = gR (mLetL 300 s) 3 + 1; rw [hc.1], hc.2.1, hi, hc.2.2.2⟩
        have hN : Nr (addN (nxt q.2)) (mAddN (mLetL 300 s) (gR s 3)) := by
          have en : rNm q.2 = gR (mLetL 300 s) 26 := hn1.1
          refine ⟨by show rNm q.2 + 1 = gR (mLetL 300 s) 26 + 1; rw [en], fun k hk => ?_⟩
          have hk2 : (k : Int) < (gR (mLetL 300 s) 26 + 1).toInt := hk
          rw [nam_p1 hc.2.2.1] at hk2
          show upd (rNs q.2) (rNm q.2).toNatClampNeg (rWs q.2) k = upd (gNf (mLetL 300 s)) (gR (mLetL 300 s) 26).toNatClampNeg (gR s 3) k ∧ upd (rNe q.2) (rNm q.2).toNatClampNeg (rWe q.2) k = upd (gNt (mLetL 300 s)) (gR (mLetL 300 s) 26).toNatClampNeg (gR (mLetL 300 s) 3) k
          rw [en, c5, c6]
          by_cases z : k = (gR (mLetL 300 s) 26).toNatClampNeg
          · subst z
            rw [pk_us, pk_us, pk_us, pk_us]
            exact ⟨rfl, rfl⟩
          · rw [pk_un z, pk_un z, pk_un z, pk_un z]
            have z' : ¬ k = (gR (mLetL 300 s) 26).toInt.toNat := z
            exact hn1.2 k (by omega)
        refine Or.inl ⟨rfl, ?_⟩
        obtain ⟨a1, a2, a3⟩ := nam_AB hv ht
        obtain ⟨r1, r2, r3, r4, r5⟩ := nam_rows ht
        refine ⟨?_, ?_, c4.2.1.2.1, c4.2.1.2.2.2.2.1, c4.2.1.2.2.2.2.2, c5.trans a1.symm, c6.trans a2.symm, hg ht, r4⟩
        · rw [e2]
          show Co T (fSkip T (addN (nxt q.2)) 32).2 (mNamG (mAddN (mLetL 300 s) (gR s 3))).2
          generalize mAddN (mLetL 300 s) (gR s 3) = s2 at hC
          unfold mNamG
          by_cases z : mSee s2 = 32
          · rw [skip_t hC z, if_pos z]; exact co_nx hC (see_lt z (by decide))
          · rw [skip_f hC z, if_neg z]; exact hC
        · rw [e2]
          show Nr (fSkip T (addN (nxt q.2)) 32).2 (mNamG (mAddN (mLetL 300 s) (gR s 3))).2
          generalize mAddN (mLetL 300 s) (gR s 3) = s2 at hC hN
          unfold mNamG
          by_cases z : mSee s2 = 32
          · rw [skip_t hC z, if_pos z]; exact hN
          · rw [skip_f hC z, if_neg z]; exact hN
    · rw [(take_f hc c7).1, bnd_f rfl]
      have e1 : mNam s = (false, mWr (mLetL 300 s) (gR (mLetL 300 s) 3)) := by
        unfold mNam mNamE
        rw [if_neg c1, if_pos (show gR (mLetL 300 s) 3 - gR s 3 ≤ 20 from c2), if_neg c7]
      rw [e1]
      exact Or.inr ⟨rfl, bad_here hc⟩
  · rw [bnd_f c3]
    have e : mNam s = (false, mWr (mLetL 300 s) (gR s 3)) := by unfold mNam mNamE; rw [if_neg c1, if_neg (show ¬ gR (mLetL 300 s) 3 - gR s 3 ≤ 20 from c2)]
    have hb : gR (mLetL 300 s) 4 = 0 := by rw [(letL_keep 300 s hv).2.2]; exact h.2.1
    rw [e]
    exact Or.inr ⟨rfl, (bad_wr hb).1, (bad_wr hb).2.trans c4.symm⟩
