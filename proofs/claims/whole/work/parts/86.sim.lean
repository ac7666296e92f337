/-! cache-control, alike -/
theorem wEq_u : ∀ (w1 w2 : List Int32) (t : Nat → Int32) (a : Int32) (j : Nat), w1.length = w2.length → wEqM t a w1 j = true → wEqM t a w2 j = true → w1 = w2 := by
  intro w1
  induction w1 with
  | nil =>
    intro w2 t a j hl _ _
    cases w2 with
    | nil => rfl
    | cons c cs => simp at hl
  | cons c cs ih =>
    intro w2 t a j hl h1 h2
    cases w2 with
    | nil => simp at hl
    | cons d ds =>
      unfold wEqM at h1 h2
      split at h1
      · rename_i e1
        split at h2
        · rename_i e2
          rw [ih ds t a (j + 1) (by simpa using hl) h1 h2, ← e1, ← e2]
        · exact absurd h2 (by decide)
      · exact absurd h1 (by decide)
theorem isW_u {s : MS} {w1 w2 : List Int32} (l1 : w1.length < 2 ^ 31) (l2 : w2.length < 2 ^ 31) (h1 : mIsW s w1 = true) (h2 : mIsW s w2 = true) : w1 = w2 := by
  unfold mIsW at h1 h2
  split at h1
  · rename_i e1
    split at h2
    · rename_i e2
      exact wEq_u w1 w2 _ _ 0 ((nI_eq l1 l2).mp (e1.symm.trans e2)) h1 h2
    · exact absurd h2 (by decide)
  · exact absurd h1 (by decide)
theorem hset10 (v : Nat → Int32) (y : Int32) : hSet v 10 y = upd v 10 y := by unfold hSet; rw [if_neg (by decide), if_neg (by decide)]; rfl
theorem hset11 (v : Nat → Int32) (y : Int32) : hSet v 11 y = upd v 11 y := by unfold hSet; rw [if_neg (by decide), if_neg (by decide)]; rfl
theorem hset12 (v : Nat → Int32) (y : Int32) : hSet v 12 y = upd v 12 y := by unfold hSet; rw [if_neg (by decide), if_neg (by decide)]; rfl
theorem hset13 (v : Nat → Int32) (y : Int32) : hSet v 13 y = upd v 13 y := by unfold hSet; rw [if_neg (by decide), if_neg (by decide)]; rfl
theorem hset14 (v : Nat → Int32) (y : Int32) : hSet v 14 y = upd v 14 y := by unfold hSet; rw [if_neg (by decide), if_neg (by decide)]; rfl
theorem hset15 (v : Nat → Int32) (y : Int32) : hSet v 15 y = upd v 15 y := by unfold hSet; rw [if_neg (by decide), if_neg (by decide)]; rfl
theorem hset16 (v : Nat → Int32) (y : Int32) : hSet v 16 y = upd v 16 y := by unfold hSet; rw [if_neg (by decide), if_neg (by decide)]; rfl
theorem hset17 (v : Nat → Int32) (y : Int32) : hSet v 17 y = upd v 17 y := by unfold hSet; rw [if_neg (by decide), if_neg (by decide)]; rfl
theorem req_b {s : MS} (hb : gR s 31 = -1) : mReq s = (if mIsW s t_no_cache = true then wR s 17 1 else (if mIsW s t_only_if_cached = true then wR s 18 1 else (if mIsW s t_max_stale = true then wR s 13 (-2) else s))) := by
  unfold mReq
  rw [if_pos hb]
  by_cases h_no_cache : mIsW s t_no_cache = true
  · rw [if_pos h_no_cache, show mRB0 s = wR s 17 1 from if_pos h_no_cache, show mRB1 (wR s 17 1) = wR s 17 1 from if_neg (show ¬ mIsW (wR s 17 1) t_only_if_cached = true from (fun q => absurd (isW_u (s := s) (w1 := t_no_cache) (w2 := t_only_if_cached) (by decide) (by decide) h_no_cache q) (by decide))), show mRB2 (wR s 17 1) = wR s 17 1 from if_neg (show ¬ mIsW (wR s 17 1) t_max_stale = true from (fun q => absurd (isW_u (s := s) (w1 := t_no_cache) (w2 := t_max_stale) (by decide) (by decide) h_no_cache q) (by decide)))]
  rw [if_neg h_no_cache]
  by_cases h_only_if_cached : mIsW s t_only_if_cached = true
  · rw [if_pos h_only_if_cached, show mRB0 s = s from if_neg h_no_cache, show mRB1 s = wR s 18 1 from if_pos h_only_if_cached, show mRB2 (wR s 18 1) = wR s 18 1 from if_neg (show ¬ mIsW (wR s 18 1) t_max_stale = true from (fun q => absurd (isW_u (s := s) (w1 := t_only_if_cached) (w2 := t_max_stale) (by decide) (by decide) h_only_if_cached q) (by decide)))]
  rw [if_neg h_only_if_cached]
  by_cases h_max_stale : mIsW s t_max_stale = true
  · rw [if_pos h_max_stale, show mRB0 s = s from if_neg h_no_cache, show mRB1 s = s from if_neg h_only_if_cached, show mRB2 s = wR s 13 (-2) from if_pos h_max_stale]
  rw [if_neg h_max_stale]
  rw [show mRB0 s = s from if_neg h_no_cache, show mRB1 s = s from if_neg h_only_if_cached, show mRB2 s = s from if_neg h_max_stale]
theorem req_h {s : MS} (hb : ¬ gR s 31 = -1) : mReq s = (if mIsW s t_max_age = true then wR s 12 (gR s 31) else (if mIsW s t_max_stale = true then wR s 13 (gR s 31) else (if mIsW s t_min_fresh = true then wR s 14 (gR s 31) else s))) := by
  unfold mReq
  rw [if_neg hb]
  by_cases h_max_age : mIsW s t_max_age = true
  · rw [if_pos h_max_age, show mRH0 s = wR s 12 (gR s 31) from if_pos h_max_age, show mRH1 (wR s 12 (gR s 31)) = wR s 12 (gR s 31) from if_neg (show ¬ mIsW (wR s 12 (gR s 31)) t_max_stale = true from (fun q => absurd (isW_u (s := s) (w1 := t_max_age) (w2 := t_max_stale) (by decide) (by decide) h_max_age q) (by decide))), show mRH2 (wR s 12 (gR s 31)) = wR s 12 (gR s 31) from if_neg (show ¬ mIsW (wR s 12 (gR s 31)) t_min_fresh = true from (fun q => absurd (isW_u (s := s) (w1 := t_max_age) (w2 := t_min_fresh) (by decide) (by decide) h_max_age q) (by decide)))]
  rw [if_neg h_max_age]
  by_cases h_max_stale : mIsW s t_max_stale = true
  · rw [if_pos h_max_stale, show mRH0 s = s from if_neg h_max_age, show mRH1 s = wR s 13 (gR s 31) from if_pos h_max_stale, show mRH2 (wR s 13 (gR s 31)) = wR s 13 (gR s 31) from if_neg (show ¬ mIsW (wR s 13 (gR s 31)) t_min_fresh = true from (fun q => absurd (isW_u (s := s) (w1 := t_max_stale) (w2 := t_min_fresh) (by decide) (by decide) h_max_stale q) (by decide)))]
  rw [if_neg h_max_stale]
  by_cases h_min_fresh : mIsW s t_min_fresh = true
  · rw [if_pos h_min_fresh, show mRH0 s = s from if_neg h_max_age, show mRH1 s = s from if_neg h_max_stale, show mRH2 s = wR s 14 (gR s 31) from if_pos h_min_fresh]
  rw [if_neg h_min_fresh]
  rw [show mRH0 s = s from if_neg h_max_age, show mRH1 s = s from if_neg h_max_stale, show mRH2 s = s from if_neg h_min_fresh]
theorem thg_b {s : MS} (hb : gR s 31 = -1) : mThg s = (if mIsW s t_no_cache = true then wR s 25 1 else (if mIsW s t_no_store = true then wR s 24 1 else s)) := by
  unfold mThg
  rw [if_pos hb]
  by_cases h_no_cache : mIsW s t_no_cache = true
  · rw [if_pos h_no_cache, show mTB0 s = s from if_neg (fun q => absurd (isW_u (s := s) (w1 := t_no_cache) (w2 := t_no_store) (by decide) (by decide) h_no_cache q) (by decide)), show mTB1 s = wR s 25 1 from if_pos h_no_cache]
  rw [if_neg h_no_cache]
  by_cases h_no_store : mIsW s t_no_store = true
  · rw [if_pos h_no_store, show mTB0 s = wR s 24 1 from if_pos h_no_store, show mTB1 (wR s 24 1) = wR s 24 1 from if_neg (show ¬ mIsW (wR s 24 1) t_no_cache = true from h_no_cache)]
  rw [if_neg h_no_store]
  rw [show mTB0 s = s from if_neg h_no_store, show mTB1 s = s from if_neg h_no_cache]
theorem thg_h {s : MS} (hb : ¬ gR s 31 = -1) : mThg s = (if mIsW s t_max_age = true then wR s 21 (gR s 31) else (if mIsW s t_stale_if_error = true then wR s 22 (gR s 31) else (if mIsW s t_stale_while_revalidate = true then wR s 23 (gR s 31) else s))) := by
  unfold mThg
  rw [if_neg hb]
  by_cases h_max_age : mIsW s t_max_age = true
  · rw [if_pos h_max_age, show mTH0 s = wR s 21 (gR s 31) from if_pos h_max_age, show mTH1 (wR s 21 (gR s 31)) = wR s 21 (gR s 31) from if_neg (show ¬ mIsW (wR s 21 (gR s 31)) t_stale_if_error = true from (fun q => absurd (isW_u (s := s) (w1 := t_max_age) (w2 := t_stale_if_error) (by decide) (by decide) h_max_age q) (by decide))), show mTH2 (wR s 21 (gR s 31)) = wR s 21 (gR s 31) from if_neg (show ¬ mIsW (wR s 21 (gR s 31)) t_stale_while_revalidate = true from (fun q => absurd (isW_u (s := s) (w1 := t_max_age) (w2 := t_stale_while_revalidate) (by decide) (by decide) h_max_age q) (by decide)))]
  rw [if_neg h_max_age]
  by_cases h_stale_if_error : mIsW s t_stale_if_error = true
  · rw [if_pos h_stale_if_error, show mTH0 s = s from if_neg h_max_age, show mTH1 s = wR s 22 (gR s 31) from if_pos h_stale_if_error, show mTH2 (wR s 22 (gR s 31)) = wR s 22 (gR s 31) from if_neg (show ¬ mIsW (wR s 22 (gR s 31)) t_stale_while_revalidate = true from (fun q => absurd (isW_u (s := s) (w1 := t_stale_if_error) (w2 := t_stale_while_revalidate) (by decide) (by decide) h_stale_if_error q) (by decide)))]
  rw [if_neg h_stale_if_error]
  by_cases h_stale_while_revalidate : mIsW s t_stale_while_revalidate = true
  · rw [if_pos h_stale_while_revalidate, show mTH0 s = s from if_neg h_max_age, show mTH1 s = s from if_neg h_stale_if_error, show mTH2 s = wR s 23 (gR s 31) from if_pos h_stale_while_revalidate]
  rw [if_neg h_stale_while_revalidate]
  rw [show mTH0 s = s from if_neg h_max_age, show mTH1 s = s from if_neg h_stale_if_error, show mTH2 s = s from if_neg h_stale_while_revalidate]
def Wd (st : RS) (s : MS) : Prop := rWs st = gR s 29 ∧ rWe st = gR s 30 ∧ sp_ok (gR s 29) (gR s 30) ∧ (gR s 30).toInt ≤ (gR s 1).toInt
def mW (x : Int32) (s : MS) : MS := if x = 0 then mThg s else mReq s
theorem wd_e {T : TX} {x : Int32} {st : RS} {s : MS} (h : Sm T x st s) (hw : Wd st s) (w : List Int32) (hl : w.length < 2 ^ 31) : fIsW T st w = mIsW s w := isW_wd h.1.2.2.2.1 hw.2.2.1 hw.2.2.2 hw.1 hw.2.1 hl
theorem sm_bare {T : TX} {x : Int32} {st : RS} {s : MS} (h : Sm T x st s) (hw : Wd st s) (hb : gR s 31 = -1) : Sm T x (fBare T st) (mW x s) := by
  have e := wd_e h hw
  unfold fBare mW
  rw [e t_no_cache (by decide), e t_no_store (by decide), e t_only_if_cached (by decide), e t_max_stale (by decide)]
  rcases h.2.2.1 with ⟨hx, hk⟩ | ⟨hx, hk⟩
  · rw [if_pos hx, thg_b hb, hk, if_pos rfl]
    by_cases q1 : mIsW s t_no_cache = true
    · rw [if_pos q1, if_pos q1]; exact ⟨h.1, h.2.1, h.2.2.1, by show Vl x (hSet (rVs st) 10 1) (rVr st) _; rw [hset10]; exact vl_25 h.2.2.2⟩
    · rw [if_neg q1, if_neg q1]
      by_cases q2 : mIsW s t_no_store = true
      · rw [if_pos q2, if_pos q2]; exact ⟨h.1, h.2.1, h.2.2.1, by show Vl x (hSet (rVs st) 15 1) (rVr st) _; rw [hset15]; exact vl_24 h.2.2.2⟩
      · rw [if_neg q2, if_neg q2]; exact h
  · rw [if_neg hx, req_b hb, hk, if_neg (show ¬ (0 : Int32) = 1 by decide)]
    by_cases q1 : mIsW s t_no_cache = true
    · rw [if_pos q1, if_pos q1]; exact ⟨h.1, h.2.1, h.2.2.1, by show Vl x (hSet (rVs st) 10 1) (rVr st) _; rw [hset10]; exact vl_17 h.2.2.2⟩
    · rw [if_neg q1, if_neg q1]
      by_cases q2 : mIsW s t_only_if_cached = true
      · rw [if_pos q2, if_pos q2]; exact ⟨h.1, h.2.1, h.2.2.1, by show Vl x (hSet (rVs st) 11 1) (rVr st) _; rw [hset11]; exact vl_18 h.2.2.2⟩
      · rw [if_neg q2, if_neg q2]
        by_cases q3 : mIsW s t_max_stale = true
        · rw [if_pos q3, if_pos q3]; exact ⟨h.1, h.2.1, h.2.2.1, by show Vl x (hSet (rVs st) 13 (-2)) (rVr st) _; rw [hset13]; exact vl_13 h.2.2.2⟩
        · rw [if_neg q3, if_neg q3]; exact h
theorem sm_with {T : TX} {x : Int32} {st : RS} {s : MS} (h : Sm T x st s) (hw : Wd st s) (hb : gR s 31 = rNb st) (h0 : 0 ≤ (rNb st).toInt) : Sm T x (fWith T st) (mW x s) := by
  have e := wd_e h hw
  have hm1 : (-1 : Int32).toInt = -1 := by decide
  have hn : ¬ gR s 31 = -1 := by rw [hb, ← Int32.toInt_inj]; omega
  unfold fWith mW
  rw [e t_max_age (by decide), e t_stale_if_error (by decide), e t_stale_while_revalidate (by decide), e t_max_stale (by decide), e t_min_fresh (by decide)]
  rcases h.2.2.1 with ⟨hx, hk⟩ | ⟨hx, hk⟩
  · rw [if_pos hx, thg_h hn, hk, if_pos rfl, hb]
    by_cases q1 : mIsW s t_max_age = true
    · rw [if_pos q1, if_pos q1]; exact ⟨h.1, h.2.1, h.2.2.1, by show Vl x (hSet (rVs st) 12 (rNb st)) (rVr st) _; rw [hset12]; exact vl_21 hx h.2.2.2⟩
    · rw [if_neg q1, if_neg q1]
      by_cases q2 : mIsW s t_stale_if_error = true
      · rw [if_pos q2, if_pos q2]; exact ⟨h.1, h.2.1, h.2.2.1, by show Vl x (hSet (rVs st) 16 (rNb st)) (rVr st) _; rw [hset16]; exact vl_22 h.2.2.2⟩
      · rw [if_neg q2, if_neg q2]
        by_cases q3 : mIsW s t_stale_while_revalidate = true
        · rw [if_pos q3, if_pos q3]; exact ⟨h.1, h.2.1, h.2.2.1, by show Vl x (hSet (rVs st) 17 (rNb st)) (rVr st) _; rw [hset17]; exact vl_23 h.2.2.2⟩
        · rw [if_neg q3, if_neg q3]; exact h
  · rw [if_neg hx, req_h hn, hk, if_neg (show ¬ (0 : Int32) = 1 by decide), hb]
    by_cases q1 : mIsW s t_max_age = true
    · rw [if_pos q1, if_pos q1]; exact ⟨h.1, h.2.1, h.2.2.1, by show Vl x (hSet (rVs st) 12 (rNb st)) (rVr st) _; rw [hset12]; exact vl_12 hx h.2.2.2⟩
    · rw [if_neg q1, if_neg q1]
      by_cases q2 : mIsW s t_max_stale = true
      · rw [if_pos q2, if_pos q2]; exact ⟨h.1, h.2.1, h.2.2.1, by show Vl x (hSet (rVs st) 13 (rNb st)) (rVr st) _; rw [hset13]; exact vl_13 h.2.2.2⟩
      · rw [if_neg q2, if_neg q2]
        by_cases q3 : mIsW s t_min_fresh = true
        · rw [if_pos q3, if_pos q3]; exact ⟨h.1, h.2.1, h.2.2.1, by show Vl x (hSet (rVs st) 14 (rNb st)) (rVr st) _; rw [hset14]; exact vl_14 h.2.2.2⟩
        · rw [if_neg q3, if_neg q3]; exact h
theorem kq_mW {x : Int32} {s : MS} : Kq LW s (mW x s) := by
  unfold mW
  split
  · exact kq_thg
  · exact kq_req
theorem kb_lisL {x : Int32} : ∀ k : Nat, Kb (fun s => mLisL k x s) := by
  intro k s h
  cases k with
  | zero => exact ⟨h, rfl⟩
  | succ k =>
    show gR (mLisL (k + 1) x s) 4 = 1 ∧ gR (mLisL (k + 1) x s) 5 = gR s 5
    unfold mLisL
    rw [if_neg (b1n h)]
    exact ⟨h, rfl⟩
theorem lisD_bad {x : Int32} {K : MS → MS} {s : MS} (h : gR s 4 = 1) : mLisD x K s = s := by unfold mLisD; rw [if_neg (b1n h)]
theorem lisC_bad {x : Int32} {K : MS → MS} {s : MS} (h : gR s 4 = 1) : mLisC x K s = s := by unfold mLisC; rw [if_neg (b1n h)]; exact lisD_bad h
theorem lisD_ok {x : Int32} {K : MS → MS} {s : MS} (h : gR s 4 = 0) : mLisD x K s = mLisE K (mW x s) := by
  unfold mLisD mW
  rw [if_pos h]
  split <;> rfl
theorem at_1 {s : MS} (hv : mInv s) (hs : ¬ gR s 1 ≤ gR s 3) : (gR (mNx s) 3).toInt = (gR s 3).toInt + 1 := by
  rw [i_le] at hs
  obtain ⟨a1, a2, a3, -⟩ := hv
  show (gR s 3 + 1).toInt = _
  rw [Int32.toInt_add, i1, Int.bmod_eq_of_le (by omega) (by omega)]
theorem ok_lisE {T : TX} {x : Int32} {k : RS → Bool × RS} {K : MS → MS} {st : RS} {s : MS} (h : Sm T x st s) (hk : ∀ st' s', Sm T x st' s' → (gR s 3).toInt + 1 ≤ (gR s' 3).toInt → gR s' 1 = gR s 1 → Ok (Sm T x) (k st') (K s')) (hb : Kb K) : Ok (Sm T x) (lisE T k st) (mLisE K s) := by
  unfold lisE mLisE
  by_cases q : mSee s = 44
  · have hs := see_lt q (by decide)
    rw [skip_t h.1 q, if_pos rfl, if_pos q]
    have g := sm_nx h (nx_nx h.1 hs)
    have e := at_1 h.1.2.2.1 hs
    refine ok_bnd (P := fun st' s' => Sm T x st' s' ∧ (gR s 3).toInt + 1 ≤ (gR s' 3).toInt ∧ gR s' 1 = gR s 1) ?_ (fun st' s' p => hk st' s' p.1 p.2.1 p.2.2) hb
    have ha := ad_exp (c := 32) g.1.2.2.1 (by decide)
    rcases ok_take (c := 32) (by decide) g.1 with ⟨n1, n2⟩ | ⟨n1, n2⟩
    · exact Or.inl ⟨n1, sm_nx g n2, by have := ha.2; omega, ha.1⟩
    · exact Or.inr ⟨n1, n2⟩
  · rw [skip_f h.1 q, if_neg (fne _), if_neg q]
    exact Or.inl ⟨rfl, h⟩
theorem num_wL (T : TX) : ∀ (k : Nat) (st : RS), rWs (fNumL T k st) = rWs st ∧ rWe (fNumL T k st) = rWe st := by
  intro k
  induction k with
  | zero => intro st; exact ⟨rfl, rfl⟩
  | succ k ih =>
    intro st
    unfold fNumL
    split
    · exact ih (numS T st)
    · exact ⟨rfl, rfl⟩
theorem num_w (T : TX) (st : RS) (m : Int32) : rWs (fNum T st m).2 = rWs st ∧ rWe (fNum T st m).2 = rWe st := by
  have h := num_wL T 5 (sNb st 0)
  unfold fNum fNumE
  split
  · exact h
  · split <;> exact h
theorem letL_end {s : MS} (k : Nat) (h : gR s 1 ≤ gR s 3) : mLetL k s = s := by
  cases k with
  | zero => rfl
  | succ k =>
    unfold mLetL
    have e : mSee s = -1 := by unfold mSee; rw [if_pos h]
    rw [e, if_neg (by decide)]
theorem ok_lis {T : TX} {x : Int32} : ∀ (k r : Nat) (st : RS) (s : MS), Sm T x st s → (gR s 1).toInt ≤ (gR s 3).toInt + k → (gR s 1).toInt + 1 ≤ (gR s 3).toInt + r → Ok (Sm T x) (fLisL T k st) (mLisL r x s) := by
  intro k
  induction k with
  | zero =>
    intro r st s h hk hr
    obtain ⟨a1, a2, a3, -⟩ := id h.1.2.2.1
    obtain ⟨r', rfl⟩ : ∃ r', r = r' + 1 := ⟨r - 1, by omega⟩
    have hle : gR s 1 ≤ gR s 3 := by rw [i_le]; omega
    unfold mLisL
    rw [if_pos h.1.2.1, letL_end (s := mLisW s) 300 hle]
    unfold mLisB
    have e1 : gR (mLisA (mLisW s)) 3 = gR (mLisA (mLisW s)) 29 := rfl
    rw [if_pos e1]
    have hb : gR (mLisA (mLisW s)) 4 = 0 := h.1.2.1
    have hw := bad_wr (p := gR (mLisA (mLisW s)) 3) hb
    have hw2 : gR (wR (mWr (mLisA (mLisW s)) (gR (mLisA (mLisW s)) 3)) 31 (-1)) 4 = 1 := hw.1
    rw [lisC_bad hw2]
    exact Or.inr ⟨rfl, hw2, hw.2.trans h.1.1.symm⟩
  | succ k ih =>
    intro r st s h hk hr
    obtain ⟨a1, a2, a3, -⟩ := id h.1.2.2.1
    obtain ⟨r', rfl⟩ : ∃ r', r = r' + 1 := ⟨r - 1, by omega⟩
    unfold fLisL mLisL
    rw [if_pos h.1.2.1]
    have h0 : Sm T x st (mLisW s) := ⟨h.1, h.2.1, h.2.2.1, vl_kz (s := s) (t := mLisW s) (((Kq.wr (L := [29]) (by decide)).kz).mono (by decide)) h.2.2.2⟩
    have e29 : gR (mLisW s) 29 = gR (mLisW s) 3 := rfl
    have e3 : gR (mLisW s) 3 = gR s 3 := rfl
    have e1 : gR (mLisW s) 1 = gR s 1 := rfl
    generalize mLisW s = s0 at h0 e29 e3 e1
    have k29 : gR (mLetL 300 s0) 29 = gR s0 3 := ((kq_letL 300 s0).2 29 (by decide)).trans e29
    have ha := ad_letL 300 s0 h0.1.2.2.1
    have hv1 := inv_letL 300 s0 h0.1.2.2.1
    have hb1 : gR (mLetL 300 s0) 4 = 0 := ((letL_keep 300 s0 h0.1.2.2.1).2.2).trans h0.1.2.1
    have hrec : ∀ (s2 : MS), (gR s0 3).toInt ≤ (gR s2 3).toInt → gR s2 1 = gR s0 1 → ∀ st' s', Sm T x st' s' → (gR s2 3).toInt + 1 ≤ (gR s' 3).toInt → gR s' 1 = gR s2 1 → Ok (Sm T x) (fLisL T k st') (mLisL r' x s') := by
      intro s2 p1 p2 st' s' p3 p4 p5
      rw [e3] at p1
      rw [e1] at p2
      exact ih r' st' s' p3 (by rw [p5, p2]; omega) (by rw [p5, p2]; omega)
    unfold mLisB
    have b3 : gR (mLisA (mLetL 300 s0)) 3 = gR (mLetL 300 s0) 3 := rfl
    have b29 : gR (mLisA (mLetL 300 s0)) 29 = gR s0 3 := k29
    rw [b3, b29]
    rcases ok_let (n := 30) h0.1 (by omega) with ⟨c1, c2, c3⟩ | ⟨c1, c2, c3, c4, c5, c6⟩ | ⟨c1, c2, c3, c4⟩
    · rw [if_pos c1, bnd_f c2]
      have hb : gR (mLisA (mLetL 300 s0)) 4 = 0 := hb1
      have hw := bad_wr (p := gR (mLetL 300 s0) 3) hb
      have hw2 : gR (wR (mWr (mLisA (mLetL 300 s0)) (gR (mLetL 300 s0) 3)) 31 (-1)) 4 = 1 := hw.1
      rw [lisC_bad hw2]
      exact Or.inr ⟨rfl, hw2, hw.2.trans (c1.trans c3.symm)⟩
    · rw [if_neg c1, if_pos (show gR (mLetL 300 s0) 3 - gR s0 3 ≤ 30 from c2), bnd_t c3]
      have g := sm_nx h0 c4
      generalize (fLet T st 30).2 = q at g c5 c6
      have g2 : Sm T x q (wR (mLisA (mLetL 300 s0)) 31 (-1)) := ⟨g.1, g.2.1, g.2.2.1, vl_kz (s := mLetL 300 s0) (t := wR (mLisA (mLetL 300 s0)) 31 (-1)) ((((Kq.wr (L := [30, 31]) (by decide)).tr (Kq.wr (by decide))).kz).mono (by decide)) g.2.2.2⟩
      have hW : Wd q (wR (mLisA (mLetL 300 s0)) 31 (-1)) := ⟨c5.trans k29.symm, c6, by show sp_ok (gR (mLetL 300 s0) 29) (gR (mLetL 300 s0) 3); rw [k29]; exact sp_at hv1 h0.1.2.2.1.1 ha.2, hv1.2.1⟩
      have t31 : gR (wR (mLisA (mLetL 300 s0)) 31 (-1)) 31 = -1 := rfl
      have p1 : (gR s0 3).toInt ≤ (gR (wR (mLisA (mLetL 300 s0)) 31 (-1)) 3).toInt := ha.2
      have p2 : gR (wR (mLisA (mLetL 300 s0)) 31 (-1)) 1 = gR s0 1 := ha.1
      generalize wR (mLisA (mLetL 300 s0)) 31 (-1) = s2 at g2 hW t31 p1 p2
      unfold mLisC
      rw [if_pos g2.1.2.1]
      by_cases q1 : mSee s2 = 61
      · have hs := see_lt q1 (by decide)
        rw [skip_t g2.1 q1, if_pos rfl, if_pos q1]
        have g3 := sm_nx g2 (nx_nx g2.1 hs)
        have hW3 : Wd (nxt q) (mNx s2) := hW
        have p3 : (gR s0 3).toInt ≤ (gR (mNx s2) 3).toInt := by rw [at_1 g2.1.2.2.1 hs]; omega
        have p4 : gR (mNx s2) 1 = gR s0 1 := p2
        generalize mNx s2 = s3 at g3 hW3 p3 p4
        generalize nxt q = st3 at g3 hW3
        have hn := ad_num (m := 99999) g3.1.2.2.1
        rcases ok_num (m := 99999) g3.1 with ⟨n1, n2, n3, n4, n5⟩ | ⟨n1, n2⟩
        · rw [bnd_t n1, n3]
          have g4 := sm_nx g3 n2
          have f29 : gR (mNum s3 99999).2 29 = gR s3 29 := kq_num.2 29 (by decide)
          have f30 : gR (mNum s3 99999).2 30 = gR s3 30 := kq_num.2 30 (by decide)
          have hsw : rWs (fNum T st3 99999).2 = rWs st3 ∧ rWe (fNum T st3 99999).2 = rWe st3 := num_w T st3 99999
          have hW4 : Wd (fNum T st3 99999).2 (mNum s3 99999).2 := by
            unfold Wd
            rw [f29, f30, hn.1, hsw.1, hsw.2]
            exact hW3
          have p5 : (gR s0 3).toInt ≤ (gR (mNum s3 99999).2 3).toInt := Int.le_trans p3 hn.2
          have p6 : gR (mNum s3 99999).2 1 = gR s0 1 := hn.1.trans p4
          generalize (mNum s3 99999).2 = s4 at g4 hW4 p5 p6
          generalize (fNum T st3 99999).2 = st4 at g4 hW4 n4
          have g5 : Sm T x st4 (wR s4 31 (rNb st4)) := ⟨g4.1, g4.2.1, g4.2.2.1, vl_kz (s := s4) (t := wR s4 31 (rNb st4)) (((Kq.wr (L := [31]) (by decide)).kz).mono (by decide)) g4.2.2.2⟩
          have hb5 : gR (wR s4 31 (rNb st4)) 4 = 0 := g4.1.2.1
          rw [lisD_ok hb5]
          have g6 := sm_with g5 (show Wd st4 (wR s4 31 (rNb st4)) from hW4) rfl n4
          have km := kq_mW (x := x) (s := wR s4 31 (rNb st4))
          have m3 : gR (mW x (wR s4 31 (rNb st4))) 3 = gR s4 3 := km.2 3 (by decide)
          have m1 : gR (mW x (wR s4 31 (rNb st4))) 1 = gR s4 1 := km.2 1 (by decide)
          exact ok_lisE g6 (hrec _ (by rw [m3]; exact p5) (by rw [m1]; exact p6)) (kb_lisL r')
        · rw [bnd_f n1]
          have hb5 : gR (wR (mNum s3 99999).2 31 (mNum s3 99999).1) 4 = 1 := n2.1
          rw [lisD_bad hb5]
          exact Or.inr ⟨rfl, hb5, n2.2⟩
      · rw [skip_f g2.1 q1, if_neg (fne _), if_neg q1, lisD_ok g2.1.2.1]
        have g6 := sm_bare g2 hW t31
        have km := kq_mW (x := x) (s := s2)
        have m3 : gR (mW x s2) 3 = gR s2 3 := km.2 3 (by decide)
        have m1 : gR (mW x s2) 1 = gR s2 1 := km.2 1 (by decide)
        exact ok_lisE g6 (hrec _ (by rw [m3]; exact p1) (by rw [m1]; exact p2)) (kb_lisL r')
    · rw [if_neg c1, if_neg (show ¬ gR (mLetL 300 s0) 3 - gR s0 3 ≤ 30 from c2), bnd_f c3]
      have hb : gR (mLisA (mLetL 300 s0)) 4 = 0 := hb1
      have hw := bad_wr (p := gR s0 3) hb
      have hw2 : gR (wR (mWr (mLisA (mLetL 300 s0)) (gR s0 3)) 31 (-1)) 4 = 1 := hw.1
      rw [lisC_bad hw2]
      exact Or.inr ⟨rfl, hw2, hw.2.trans c4.symm⟩
