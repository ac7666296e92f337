/-! LINES and the whole TEXT, alike -/
theorem nm_u {s : MS} {w1 w2 : List Int32} (l1 : w1.length < 2 ^ 31) (l2 : w2.length < 2 ^ 31) (h1 : mNamed s w1 = true) (h2 : mNamed s w2 = true) : w1 = w2 := by
  unfold mNamed at h1 h2
  split at h1
  · rename_i e1
    split at h2
    · rename_i e2
      exact wEq_u w1 w2 _ _ 0 ((nI_eq l1 l2).mp (e1.symm.trans e2)) h1 h2
    · exact absurd h2 (by decide)
  · exact absurd h1 (by decide)
def mLinV (x : Int32) (s : MS) : MS := if x = 0 then (if mNamed s t_cache_control = true then mLisL 301 x s else if mNamed s t_length = true then wR (mNum s 255).2 19 (mNum s 255).1 else if mNamed s t_keys = true then mKeyL 8 s else mAnyL 300 s) else (if mNamed s t_range = true then mRng s else if mNamed s t_if_none_match = true then mMat s else if mNamed s t_cache_control = true then mLisL 301 x s else mAnyL 300 s)
theorem linB_eq {x : Int32} {s : MS} : mLinB x s = mLinZ (mLinV x s) := by
  unfold mLinB mLinV
  by_cases hx : x = 0
  · rw [if_pos hx, if_pos hx]
    by_cases q1 : mNamed s t_cache_control = true
    · rw [if_pos q1, if_pos q1]
    · rw [if_neg q1, if_neg q1]
      by_cases q2 : mNamed s t_length = true
      · rw [if_pos q2, if_pos q2]
      · rw [if_neg q2, if_neg q2]
        by_cases q3 : mNamed s t_keys = true
        · rw [if_pos q3, if_pos q3]
        · rw [if_neg q3, if_neg q3]
  · rw [if_neg hx, if_neg hx]
    by_cases q1 : mNamed s t_range = true
    · rw [if_pos q1, if_pos q1]
    · rw [if_neg q1, if_neg q1]
      by_cases q2 : mNamed s t_if_none_match = true
      · rw [if_pos q2, if_pos q2]
      · rw [if_neg q2, if_neg q2]
        by_cases q3 : mNamed s t_cache_control = true
        · rw [if_pos q3, if_pos q3]
        · rw [if_neg q3, if_neg q3]
theorem g_linV {s t : MS} {x : Int32} (h : Gn s t) : Gn s (mLinV x t) := by
  unfold mLinV
  split
  · split
    · exact g_lisL _ _ _ h
    · split
      · exact g_reg 19 (g_num h) (by decide) (by decide) (by decide)
      · split
        · exact g_keyL _ _ h
        · exact g_anyL _ _ h
  · split
    · exact g_rng h
    · split
      · exact g_mat h
      · split
        · exact g_lisL _ _ _ h
        · exact g_anyL _ _ h
theorem ok_val {T : TX} {x : Int32} {st : RS} {s : MS} (h : Sm T x st s) (hn : 1 ≤ (gR s 26).toInt) (w1 : rWs st = nA s) (w2 : rWe st = nB s) (h11 : mNamed s t_if_none_match = true → gR s 11 = 0) (h8 : mNamed s t_range = true → gR s 8 = 0) : Ok (Sm T x) (fValE T st) (mLinV x s) := by
  have e : ∀ w : List Int32, w.length < 2 ^ 31 → fIsW T st w = mNamed s w := fun w hl => isW_nm h.1.2.2.2.1 h.1.2.2.1 hn w1 w2 hl
  have hlis : Ok (Sm T x) (fLisL T 300 st) (mLisL 301 x s) := ok_lis 300 301 st s h (an_0 h.1.2.2.1) (li_0 h.1.2.2.1)
  have hany : Ok (Sm T x) (true, fAnyL T 300 st) (mAnyL 300 s) := Or.inl ⟨rfl, sm_nx h (any_eq 300 st s h.1)⟩
  unfold fValE mLinV
  rw [e t_cache_control (by decide), e t_range (by decide), e t_if_none_match (by decide), e t_length (by decide), e t_keys (by decide)]
  rcases h.2.2.1 with ⟨hx, hk⟩ | ⟨hx, hk⟩
  · rw [if_pos hx, hk, if_neg (show ¬ (1 : Int32) = 0 by decide), if_pos rfl]
    by_cases q1 : mNamed s t_cache_control = true
    · rw [if_pos q1, if_pos q1]; exact hlis
    · rw [if_neg q1, if_neg q1]
      by_cases q2 : mNamed s t_length = true
      · rw [if_pos q2, if_pos q2]; exact ok_len h
      · rw [if_neg q2, if_neg q2]
        by_cases q3 : mNamed s t_keys = true
        · rw [if_pos q3, if_pos q3]; exact ok_key 7 st s h
        · rw [if_neg q3, if_neg q3]; exact hany
  · rw [if_neg hx, hk, if_pos rfl]
    by_cases q1 : mNamed s t_cache_control = true
    · have n1 : ¬ mNamed s t_range = true := fun q => absurd (nm_u (w1 := t_cache_control) (w2 := t_range) (by decide) (by decide) q1 q) (by decide)
      have n2 : ¬ mNamed s t_if_none_match = true := fun q => absurd (nm_u (w1 := t_cache_control) (w2 := t_if_none_match) (by decide) (by decide) q1 q) (by decide)
      rw [if_pos q1, if_neg n1, if_neg n2, if_pos q1]; exact hlis
    · rw [if_neg q1, if_neg q1]
      by_cases q2 : mNamed s t_range = true
      · rw [if_pos q2, if_pos q2]; exact ok_rng h (h8 q2)
      · rw [if_neg q2, if_neg q2]
        by_cases q3 : mNamed s t_if_none_match = true
        · rw [if_pos q3, if_pos q3]; exact ok_mat h (h11 q3)
        · rw [if_neg q3, if_neg q3]; exact hany
/-! what the reading leaves alone -/
def Kx (s t : MS) : Prop := gKp t = gKp s ∧ gKm t = gKm s ∧ gR t 0 = gR s 0 ∧ gR t 27 = gR s 27 ∧ gR t 28 = gR s 28
theorem Kx.rf {s : MS} : Kx s s := ⟨rfl, rfl, rfl, rfl, rfl⟩
theorem Kx.tr {s t u : MS} (h : Kx s t) (g : Kx t u) : Kx s u := ⟨g.1.trans h.1, g.2.1.trans h.2.1, g.2.2.1.trans h.2.2.1, g.2.2.2.1.trans h.2.2.2.1, g.2.2.2.2.trans h.2.2.2.2⟩
theorem Kq.kx {L : List Nat} {s t : MS} (h : Kq L s t) (h0 : 0 ∉ L) (h1 : 27 ∉ L) (h2 : 28 ∉ L) : Kx s t := ⟨by unfold gKp; rw [h.1], by unfold gKm; rw [h.1], h.2 0 h0, h.2 27 h1, h.2 28 h2⟩
/-- matching: which registers stay -/
theorem mtL_r : ∀ (k : Nat) (s : MS), Kx s (mMtL k s) ∧ gR (mMtL k s) 8 = gR s 8 := by
  intro k
  induction k with
  | zero => intro s; exact ⟨Kx.rf, rfl⟩
  | succ k ih =>
    intro s
    unfold mMtL
    split
    · have h1 : Kx s (mExp s 34).2 ∧ gR (mExp s 34).2 8 = gR s 8 := ⟨kq_exp.kx (by decide) (by decide) (by decide), kq_exp.2 8 (by decide)⟩
      generalize (mExp s 34).2 = s1 at h1
      have h2 : Kx s (mExp (mNum s1 99999).2 34).2 ∧ gR (mExp (mNum s1 99999).2 34).2 8 = gR s 8 := ⟨h1.1.tr ((kq_num.kx (by decide) (by decide) (by decide)).tr (kq_exp.kx (by decide) (by decide) (by decide))), by rw [kq_exp.2 8 (by decide), kq_num.2 8 (by decide)]; exact h1.2⟩
      unfold mMtA
      generalize (mExp (mNum s1 99999).2 34).2 = s2 at h2
      unfold mMtB
      split
      · have h3 : Kx s (mMtP s2 (mNum s1 99999).1) ∧ gR (mMtP s2 (mNum s1 99999).1) 8 = gR s 8 := ⟨h2.1.tr ⟨rfl, rfl, rfl, rfl, rfl⟩, h2.2⟩
        generalize mMtP s2 (mNum s1 99999).1 = s3 at h3
        unfold mMtC
        split
        · split
          · exact h3
          · have h4 : Kx s (mExp (mNx s3) 32).2 ∧ gR (mExp (mNx s3) 32).2 8 = gR s 8 := ⟨h3.1.tr ((kq_nx.kx (by decide) (by decide) (by decide)).tr (kq_exp.kx (by decide) (by decide) (by decide))), by rw [kq_exp.2 8 (by decide)]; exact h3.2⟩
            obtain ⟨i1, i2⟩ := ih (mExp (mNx s3) 32).2
            exact ⟨h4.1.tr i1, i2.trans h4.2⟩
        · exact h3
      · exact h2
    · exact ⟨Kx.rf, rfl⟩
theorem mat_r {s : MS} : Kx s (mMat s) ∧ gR (mMat s) 8 = gR s 8 := by
  unfold mMat
  split
  · exact ⟨⟨rfl, rfl, rfl, rfl, rfl⟩, rfl⟩
  · exact mtL_r 8 s
theorem kx_linV {x : Int32} {s : MS} : Kx s (mLinV x s) := by
  unfold mLinV
  split
  · split
    · exact (kq_lisL _ _ _).kx (by decide) (by decide) (by decide)
    · split
      · exact Kq.kx (L := [3, 4, 5, 19]) ((kq_num.mono (by decide)).tr (Kq.wr (by decide))) (by decide) (by decide) (by decide)
      · split
        · exact (kq_keyL _ _).kx (by decide) (by decide) (by decide)
        · exact (kq_anyL _ _).kx (by decide) (by decide) (by decide)
  · split
    · exact kq_rng.kx (by decide) (by decide) (by decide)
    · split
      · exact mat_r.1
      · split
        · exact (kq_lisL _ _ _).kx (by decide) (by decide) (by decide)
        · exact (kq_anyL _ _).kx (by decide) (by decide) (by decide)
theorem kz_nam {s : MS} : Kz [3, 4, 5, 26] s (mNam s).2 := by
  cases hb : (mNam s).1 with
  | false => exact ((kq_namF hb).kz).mono (by decide)
  | true =>
    have q := kq_letL 300 s
    rw [(nam_ok hb).2.2.2.2]
    have g := kq_namG (s := mAddN (mLetL 300 s) (gR s 3))
    have h1 : Kz [3, 4, 5, 26] (mLetL 300 s) (mAddN (mLetL 300 s) (gR s 3)) := by
      refine ⟨rfl, rfl, rfl, fun k hk => ?_⟩
      show (if k = 3 then _ else if k = 26 then _ else (mLetL 300 s).1 k) = (mLetL 300 s).1 k
      rw [if_neg (fun z => hk (by rw [z]; decide)), if_neg (fun z => hk (by rw [z]; decide))]
    exact ((q.kz).mono (by decide)).tr (h1.tr ((g.kz).mono (by decide)))
theorem kx_nam {s : MS} : Kx s (mNam s).2 := ⟨kz_nam.2.1, kz_nam.2.2.1, kz_nam.2.2.2 0 (by decide), kz_nam.2.2.2 27 (by decide), kz_nam.2.2.2 28 (by decide)⟩
theorem kx_line {x : Int32} {s : MS} : Kx s (mLine s x) := by
  unfold mLine
  split
  · split
    · rw [linB_eq]
      exact kx_nam.tr (kx_linV.tr (kq_exp.kx (by decide) (by decide) (by decide)))
    · exact kx_nam
  · exact kq_wr.kx (by decide) (by decide) (by decide)
/-! the range comes once -/
def jR (s : MS) : Prop := gR s 8 = 0 ∨ ∃ k : Nat, (k : Int) < (gR s 26).toInt ∧ isNm s k t_range
theorem jr_kn {s t : MS} (h : Kn s t) (e : gR t 8 = gR s 8) (hj : jR s) : jR t := by
  obtain ⟨k1, k2, k3, k4⟩ := h
  unfold jR isNm
  rw [e, k1, k2, k3, k4]
  exact hj
theorem jr_nam {s : MS} (hv : mInv s) (hj : jR s) (h : (mNam s).1 = true) : jR (mNam s).2 := by
  obtain ⟨e1, e2, e3, e4, e5⟩ := nam_rows h
  have e8 : gR (mNam s).2 8 = gR s 8 := kz_nam.2.2.2 8 (by decide)
  rcases hj with q | ⟨k, hk, q1, q2⟩
  · exact Or.inl (e8.trans q)
  · have hne : k ≠ (gR s 26).toNatClampNeg := by
      intro q
      have q' : k = (gR s 26).toInt.toNat := q
      omega
    refine Or.inr ⟨k, by rw [e4, nam_p1 hv]; omega, ?_⟩
    unfold isNm
    rw [e1, e2, e3, pk_un hne, pk_un hne]
    exact ⟨q1, q2⟩
theorem jr_linB {s : MS} {x : Int32} (hn : 1 ≤ (gR s 26).toInt) (hv : mInv s) (hj : jR s) (h11 : mNamed s t_if_none_match = true → gR s 11 = 0) : jR (mLinB x s) := by
  rw [linB_eq]
  have hz : ∀ t, jR t → jR (mLinZ t) := fun t ht => jr_kn (kq_exp.kn (by decide)) (kq_exp.2 8 (by decide)) ht
  refine hz _ ?_
  unfold mLinV
  split
  · split
    · exact jr_kn ((kq_lisL _ _ _).kn (by decide)) ((kq_lisL _ _ _).2 8 (by decide)) hj
    · split
      · exact jr_kn (Kq.kn (L := [3, 4, 5, 19]) ((kq_num.mono (by decide)).tr (Kq.wr (by decide))) (by decide)) (by show gR (mNum s 255).2 8 = gR s 8; exact kq_num.2 8 (by decide)) hj
      · split
        · exact jr_kn ((kq_keyL _ _).kn (by decide)) ((kq_keyL _ _).2 8 (by decide)) hj
        · exact jr_kn ((kq_anyL _ _).kn (by decide)) ((kq_anyL _ _).2 8 (by decide)) hj
  · split
    · rename_i q
      obtain ⟨k1, k2, k3, k4⟩ := kq_rng.kn (s := s) (by decide)
      refine Or.inr ⟨(gR s 26 - 1).toNatClampNeg, ?_, ?_⟩
      · rw [k4]
        have e := nm_pr hv hn
        show (((gR s 26 - 1).toInt.toNat : Nat) : Int) < (gR s 26).toInt
        omega
      · unfold isNm
        rw [k1, k2, k3]
        unfold mNamed at q
        split at q
        · rename_i hl
          exact ⟨hl, q⟩
        · exact absurd q (by decide)
    · split
      · rename_i q
        exact jr_kn (kn_mat (h11 q)).1 mat_r.2 hj
      · split
        · exact jr_kn ((kq_lisL _ _ _).kn (by decide)) ((kq_lisL _ _ _).2 8 (by decide)) hj
        · exact jr_kn ((kq_anyL _ _).kn (by decide)) ((kq_anyL _ _).2 8 (by decide)) hj
/-- the two, at a LINE's beginning -/
def Ls (T : TX) (x : Int32) (st : RS) (s : MS) : Prop := Sm T x st s ∧ jInv s ∧ jR s ∧ 3 * (gR s 26).toInt ≤ (gR s 3).toInt
theorem line_eq {s : MS} {x : Int32} (hv : mInv s) : mLine s x = (if (mNam s).1 = true then mLinB x (mNam s).2 else (mNam s).2) := by
  unfold mLine
  by_cases q : gR s 3 < gR s 1
  · rw [if_pos q]
  · rw [if_neg q]
    have hle : gR s 1 ≤ gR s 3 := by rw [i_lt] at q; rw [i_le]; omega
    have heq : gR s 3 = gR s 1 := by
      rw [← Int32.toInt_inj]
      rw [i_le] at hle
      have := hv.2.1
      omega
    have e : mNam s = (false, mWr s (gR s 3)) := by
      unfold mNam
      rw [letL_end 300 hle]
      unfold mNamE
      rw [if_pos rfl]
    rw [e, if_neg (fne _), heq]
def fLine (T : TX) (st : RS) : Bool × RS := bnd (fNam T st) (fun s => bnd (fVal T s) (fun s => fTake T s 10))
theorem bnd_as (q : Bool × RS) (f g : RS → Bool × RS) : bnd (bnd q f) g = bnd q (fun s => bnd (f s) g) := by
  cases hq : q.1 with
  | true => rw [bnd_t hq, bnd_t hq]
  | false => rw [bnd_f hq, bnd_f hq, bnd_f rfl]
theorem bnd_id (q : Bool × RS) : bnd q (fun s => (true, s)) = q := by
  cases hq : q.1 with
  | true => rw [bnd_t hq, ← hq]
  | false => rw [bnd_f hq, ← hq]
theorem ok_line {T : TX} {x : Int32} {st : RS} {s : MS} (h : Ls T x st s) : Ok (fun st' s' => Ls T x st' s' ∧ gR s' 26 = gR s 26 + 1 ∧ (gR s 3).toInt + 1 ≤ (gR s' 3).toInt ∧ gR s' 1 = gR s 1) (fLine T st) (mLine s x) := by
  obtain ⟨hS, hj, hr, h3⟩ := h
  have hv := hS.1.2.2.1
  have hjl := jv_line (x := x) hv hj
  rw [line_eq hv] at hjl ⊢
  unfold fLine
  have hc1 : gR (mNam s).2 1 = gR s 1 := kz_nam.2.2.2 1 (by decide)
  rcases ok_nam hS.1 hS.2.1 h3 with ⟨h1, h2⟩ | ⟨h1, h2⟩
  · rw [bnd_t h1]
    cases hb : (mNam s).1 with
    | false =>
      exfalso
      exact nam_bad hb h2.1.2.1
    | true =>
      rw [hb] at hjl
      rw [if_pos rfl] at hjl ⊢
      obtain ⟨p1, p2, p3, p4, p5, p6, p7, p8, p9⟩ := h2
      have hn := nam_n hv hb
      have h11 : mNamed (mNam s).2 t_if_none_match = true → gR (mNam s).2 11 = 0 := fun q => mt_0 hv hj hb q
      have h8 : mNamed (mNam s).2 t_range = true → gR (mNam s).2 8 = 0 := by
        intro q
        rcases hr with z | ⟨k, hk, hi⟩
        · rw [kz_nam.2.2.2 8 (by decide)]; exact z
        · exact absurd (once hv hk hi (by decide) hb q) not_false
      have hrl := jr_linB (x := x) hn p1.2.2.1 (jr_nam hv hr hb) h11
      rw [linB_eq] at hjl hrl ⊢
      have hsk : ∀ st' : RS, rKd (fSkip T st' 32).2 = rKd st' ∧ rVs (fSkip T st' 32).2 = rVs st' ∧ rVr (fSkip T st' 32).2 = rVr st' ∧ rWs (fSkip T st' 32).2 = rWs st' ∧ rWe (fSkip T st' 32).2 = rWe st' := fun st' => by unfold fSkip; split <;> exact ⟨rfl, rfl, rfl, rfl, rfl⟩
      obtain ⟨s1, s2, s3, s4, s5⟩ := hsk (fNam T st).2
      have hS2 : Sm T x (fSkip T (fNam T st).2 32).2 (mNam s).2 := by
        refine ⟨p1, p2, ?_, ?_⟩
        · unfold Kd
          rw [s1, p3]
          exact hS.2.2.1
        · rw [s2, s3, p4, p5]
          exact vl_kz (kz_nam.mono (by decide)) hS.2.2.2
      have hval := ok_val hS2 hn (s4.trans p6) (s5.trans p7) h11 h8
      have hgn := (g_linV (s := (mNam s).2) (x := x) ⟨p1.2.2.1, Ad.rf⟩)
      have kn26 : gR (mLinV x (mNam s).2) 26 = gR (mNam s).2 26 := by
        unfold mLinV
        split
        · split
          · exact (kq_lisL _ _ _).2 26 (by decide)
          · split
            · show gR (mNum (mNam s).2 255).2 26 = _; exact kq_num.2 26 (by decide)
            · split
              · exact (kq_keyL _ _).2 26 (by decide)
              · exact (kq_anyL _ _).2 26 (by decide)
        · split
          · exact kq_rng.2 26 (by decide)
          · split
            · rename_i q; exact (kn_mat (h11 q)).1.2.2.2
            · split
              · exact (kq_lisL _ _ _).2 26 (by decide)
              · exact (kq_anyL _ _).2 26 (by decide)
      show Ok _ (bnd (fValE T (fSkip T (fNam T st).2 32).2) (fun s => fTake T s 10)) _
      generalize mLinV x (mNam s).2 = s3' at hval hgn kn26 hjl hrl
      generalize fValE T (fSkip T (fNam T st).2 32).2 = qv at hval ⊢
      rcases hval with ⟨v1, v2⟩ | ⟨v1, v2⟩
      · rw [bnd_t v1]
        generalize qv.2 = st3 at v2
        by_cases q : mSee s3' = 10
        · have hs := see_lt q (by decide)
          have et : (mExp s3' 10).2 = mNx s3' := by rw [(take_t v2.1 q).2]
          unfold mLinZ at hjl hrl ⊢
          rw [et] at hjl hrl ⊢
          rw [(take_t v2.1 q).1]
          have e1 := at_1 v2.1.2.2.1 hs
          have e26 : gR (mNx s3') 26 = gR s 26 + 1 := kn26.trans p9
          have hg2 := hgn.2.2
          refine Or.inl ⟨rfl, ⟨sm_nx v2 (nx_nx v2.1 hs), hjl, hrl, ?_⟩, e26, by omega, ?_⟩
          · rw [e26, nam_p1 hv]; omega
          · show gR s3' 1 = gR s 1
            rw [hgn.2.1, hc1]
        · have et : (mExp s3' 10).2 = mWr s3' (gR s3' 3) := by rw [(take_f v2.1 q).2]
          unfold mLinZ
          rw [et, (take_f v2.1 q).1]
          exact Or.inr ⟨rfl, bad_here v2.1⟩
      · rw [bnd_f v1]
        have kb : gR (mExp s3' 10).2 4 = 1 ∧ gR (mExp s3' 10).2 5 = gR s3' 5 := kb_exp (c := 10) s3' v2.1
        exact Or.inr ⟨rfl, kb.1, kb.2.trans v2.2⟩
  · rw [bnd_f h1]
    cases hb : (mNam s).1 with
    | false => rw [if_neg Bool.false_ne_true]; exact Or.inr ⟨rfl, h2⟩
    | true =>
      exfalso
      have hz : gR (mNam s).2 4 = gR s 4 := by
        rw [(nam_ok hb).2.2.2.2]
        have e1 : gR (mAddN (mLetL 300 s) (gR s 3)) 4 = gR s 4 := (letL_keep 300 s hv).2.2
        unfold mNamG
        split
        · exact e1
        · exact e1
      rw [hS.1.2.1] at hz
      exact b1n h2.1 hz
/-! the end of a TEXT -/
def Tx (x : Int32) (q : Bool × RS) (p : Bool × MS) : Prop := p.1 = q.1 ∧ gR p.2 2 = rSk q.2 ∧ (q.1 = true → Vl x (rVs q.2) (rVr q.2) p.2)
theorem txt_bad {x : Int32} {s : MS} {q : RS} (h : Bad q s) : Tx x (false, q) (mTxtE s) := by
  have e : (mExp s 10).2 = s := by unfold mExp; rw [if_neg (b1n h.1)]
  unfold mTxtE
  rw [e]
  unfold mTxtU
  rw [if_neg (b1n h.1)]
  unfold mTxtW
  have h1 : ¬ gR (wR s 1 0) 4 = 0 := b1n h.1
  rw [if_neg h1]
  unfold mTxtX
  have h2 : ¬ gR (wR (wR s 1 0) 2 (gR (wR s 1 0) 5)) 4 = 0 := b1n h.1
  rw [if_neg h2]
  exact ⟨rfl, h.2, fun z => absurd z Bool.false_ne_true⟩
theorem txtL_bad {x : Int32} {s : MS} (h : gR s 4 = 1) : ∀ r : Nat, mTxtL r x s = mTxtE s := by
  intro r
  cases r with
  | zero => rfl
  | succ r => unfold mTxtL; rw [if_neg (b1n h)]
theorem txt_end {T : TX} {x : Int32} {st : RS} {s : MS} (h : Sm T x st s) (q : mSee s = 10) : Tx x (fEnd T (nxt st)) (mTxtE s) := by
  have hs := see_lt q (by decide)
  have g := sm_nx h (nx_nx h.1 hs)
  have e : (mExp s 10).2 = mNx s := by rw [(take_t h.1 q).2]
  unfold mTxtE
  rw [e]
  generalize mNx s = s1 at g
  generalize nxt st = st1 at g
  unfold fEnd mTxtU
  rw [mark_eq g.1, if_pos g.1.2.1]
  by_cases q1 : gR s1 1 ≤ gR s1 3
  · have e1 : mSee s1 = -1 := by unfold mSee; rw [if_pos q1]
    rw [if_pos e1, if_pos q1]
    unfold mTxtW
    have h1 : gR (wR s1 1 0) 4 = 0 := g.1.2.1
    rw [if_pos h1]
    unfold mTxtX
    have h2 : gR (wR (wR s1 1 0) 2 (-1)) 4 = 0 := g.1.2.1
    rw [if_pos h2]
    refine ⟨rfl, g.1.2.2.2.2.symm, fun _ => ?_⟩
    exact vl_kz (s := s1) (t := wR (wR s1 1 0) 2 (-1)) ((((Kq.wr (L := [1, 2]) (by decide)).tr (Kq.wr (by decide))).kz).mono (by decide)) g.2.2.2
  · have e1 : ¬ mSee s1 = -1 := fun z => q1 (see_end g.1.2.2.2.1 g.1.2.2.1 z)
    rw [if_neg e1, if_neg q1]
    have hw := bad_here g.1
    generalize mWr s1 (gR s1 3) = s2 at hw
    unfold mTxtW
    have h1 : ¬ gR (wR s2 1 0) 4 = 0 := b1n hw.1
    rw [if_neg h1]
    unfold mTxtX
    have h2 : ¬ gR (wR (wR s2 1 0) 2 (gR (wR s2 1 0) 5)) 4 = 0 := b1n hw.1
    rw [if_neg h2]
    exact ⟨rfl, hw.2, fun z => absurd z Bool.false_ne_true⟩
theorem ok_txtL {T : TX} {x : Int32} : ∀ (k r : Nat) (st : RS) (s : MS), Ls T x st s → (gR s 26).toInt + k = 101 → (gR s 1).toInt + 1 ≤ (gR s 3).toInt + r → Tx x (fTxtL T k st) (mTxtL r x s) := by
  intro k
  induction k with
  | zero =>
    intro r st s h hk _
    exfalso
    obtain ⟨a1, a2, a3, -⟩ := id h.1.1.2.2.1
    have := h.2.2.2
    omega
  | succ k ih =>
    intro r st s h hk hr
    obtain ⟨a1, a2, a3, a4, -⟩ := id h.1.1.2.2.1
    obtain ⟨r', rfl⟩ : ∃ r', r = r' + 1 := ⟨r - 1, by omega⟩
    unfold fTxtL mTxtL
    rw [if_pos h.1.1.2.1]
    by_cases q : mSee s = 10
    · rw [skip_t h.1.1 q, if_pos rfl, if_pos q]
      exact txt_end h.1 q
    · rw [skip_f h.1.1 q, if_neg (fne _), if_neg q]
      have e : bnd (fNam T st) (fun s => bnd (fVal T s) (fun s => bnd (fTake T s 10) (fun s => fTxtL T k s))) = bnd (fLine T st) (fun s => fTxtL T k s) := by
        unfold fLine
        rw [bnd_as]
        congr 1
        funext s
        rw [bnd_as]
      show Tx x (bnd (fNam T st) (fun s => bnd (fVal T s) (fun s => bnd (fTake T s 10) (fun s => fTxtL T k s)))) (mTxtL r' x (mLine s x))
      rw [e]
      rcases ok_line h with ⟨h1, h2, h3, h4, h5⟩ | ⟨h1, h2⟩
      · rw [bnd_t h1]
        have hp := nam_p1 h.1.1.2.2.1
        exact ih r' _ _ h2 (by rw [h3, hp]; omega) (by rw [h5]; omega)
      · rw [bnd_f h1, txtL_bad h2.1]
        exact txt_bad h2
