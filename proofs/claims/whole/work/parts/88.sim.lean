/-! the first LINE, the TEXT, what is kept -/
def Vp (x : Int32) (v r : Nat → Int32) (s : MS) : Prop :=
  v 3 = gR s 8 ∧ v 4 = kv4 s ∧ v 5 = kv5 s ∧ v 6 = kv6 s ∧ v 8 = gR s 19 ∧ v 9 = gR s 20 ∧ v 10 = kv10 s ∧ v 11 = kv11 s ∧ v 12 = kv12 s x ∧ v 13 = gR s 13 ∧ v 14 = gR s 14 ∧ v 15 = kv15 s ∧ v 16 = gR s 22 ∧ v 17 = gR s 23 ∧ Dd v r s ∧ Rg s
theorem vp_kz {x : Int32} {v r : Nat → Int32} {s t : MS} (h : Kz [0, 1, 2, 3, 4, 5, 6, 7, 15, 26, 27, 28, 29, 30, 31] s t) (g : Vp x v r s) : Vp x v r t := by
  obtain ⟨hm, -, -, hk⟩ := h
  unfold Vp kv4 kv5 kv6 kv10 kv11 kv12 kv15 Dd Rg
  rw [hk 8 (by decide), hk 9 (by decide), hk 10 (by decide), hk 11 (by decide), hk 12 (by decide), hk 13 (by decide), hk 14 (by decide), hk 16 (by decide), hk 17 (by decide), hk 18 (by decide), hk 19 (by decide), hk 20 (by decide), hk 21 (by decide), hk 22 (by decide), hk 23 (by decide), hk 24 (by decide), hk 25 (by decide), hm]
  exact g
theorem vp_0 {x : Int32} {v r : Nat → Int32} {s : MS} : Vp x (va_cpy at0 v 0 0 18) r (mRst s) := by
  refine ⟨rfl, rfl, rfl, rfl, rfl, rfl, rfl, rfl, ?_, rfl, rfl, rfl, rfl, rfl, ⟨0, r, by omega, rfl, rfl, rfl⟩, Or.inl rfl, fun h => absurd rfl h, fun h => absurd h (by decide : ¬ (0 : Int32) = 1)⟩
  unfold kv12
  split <;> rfl
theorem vp_u {x : Int32} {v r : Nat → Int32} {s : MS} {k : Nat} {y : Int32} (hk : k = 0 ∨ k = 1 ∨ k = 2) (h : Vp x v r s) : Vp x (upd v k y) r s := by
  rcases hk with rfl | rfl | rfl <;> exact h
theorem hset0 (v : Nat → Int32) (y : Int32) : hSet v 0 y = upd v 0 y := by unfold hSet; rw [if_neg (by decide), if_neg (by decide)]; rfl
theorem hset1 (v : Nat → Int32) (y : Int32) : hSet v 1 y = upd v 1 y := by unfold hSet; rw [if_neg (by decide), if_neg (by decide)]; rfl
theorem hset2 (v : Nat → Int32) (y : Int32) : hSet v 2 y = upd v 2 y := by unfold hSet; rw [if_neg (by decide), if_neg (by decide)]; rfl
def Fs (T : TX) (x : Int32) (st : RS) (s : MS) : Prop := Co T st s ∧ Nr st s ∧ Kd x st ∧ Vp x (rVs st) (rVr st) s ∧ rVs st 2 = 0
theorem fs_nx {T : TX} {x : Int32} {st st' : RS} {s s' : MS} (h : Fs T x st s) (g : Nx T st s st' s') : Fs T x st' s' := by
  obtain ⟨f1, f2, f3, f4, f5, f6⟩ := g.2.1
  refine ⟨g.1, nr_nx h.2.1 g, kd_fr h.2.2.1 g.2.1, ?_, ?_⟩
  · rw [f5, f6]
    exact vp_kz ((g.2.2.kz).mono (by decide)) h.2.2.2.1
  · rw [f5]; exact h.2.2.2.2
def mVb (s : MS) (x : Int32) : MS := if x = 0 then (mWord t_PUT s).2 else if mSee s = 72 then wR (mWord t_HEAD s).2 15 1 else (mWord t_GET s).2
theorem txtA_eq {s : MS} {x : Int32} : mTxtA s x = mTxtL 301 x (mTgt (mVb s x) x) := by
  unfold mTxtA mVb
  split
  · rfl
  · split <;> rfl
theorem kv0_kq {s t : MS} {x : Int32} (h : gR t 15 = gR s 15) : kv0 t x = kv0 s x := by unfold kv0; rw [h]
theorem ok_verb {T : TX} {x : Int32} {st : RS} {s : MS} (h : Fs T x st s) (h15 : gR s 15 = 0) : Ok (fun st' s' => Fs T x st' s' ∧ rVs st' 0 = kv0 s' x) (fVerb T st) (mVb s x) := by
  have hd : ∀ y : Int32, Fs T x (dSet st 0 y) s ∧ rVs (dSet st 0 y) 0 = y := by
    intro y
    have e : rVs (dSet st 0 y) = upd (rVs st) 0 y := hset0 _ _
    refine ⟨⟨h.1, h.2.1, h.2.2.1, ?_, ?_⟩, ?_⟩
    · rw [e]; exact vp_u (Or.inl rfl) h.2.2.2.1
    · rw [e]; exact h.2.2.2.2
    · rw [e]; rfl
  have hw : ∀ (y : Int32) (w : List Int32), (∀ c ∈ w, ¬ c = -1) → Ok (fun st' s' => Fs T x st' s' ∧ rVs st' 0 = y ∧ gR s' 15 = 0) (fAll T w (dSet st 0 y)) (mWord w s).2 := by
    intro y w hc
    have g := hd y
    refine (ok_all w (dSet st 0 y) s hc g.1.1).mono (fun st' s' n => ⟨fs_nx g.1 n, ?_, ?_⟩)
    · rw [n.2.1.2.2.2.2.1]; exact g.2
    · rw [n.2.2.2 15 (by decide)]; exact h15
  unfold fVerb mVb
  rcases h.2.2.1 with ⟨hx, hk⟩ | ⟨hx, hk⟩
  · rw [hk, if_pos rfl, if_pos hx]
    exact (hw 3 t_PUT (by decide)).mono (fun st' s' n => ⟨n.1, by rw [n.2.1]; unfold kv0; rw [if_pos hx]⟩)
  · rw [hk, if_neg (show ¬ (0 : Int32) = 1 by decide), if_neg hx, mark_eq h.1]
    by_cases q : mSee s = 72
    · rw [if_pos q, if_pos q]
      rcases hw 2 t_HEAD (by decide) with ⟨h1, h2, h3, h4⟩ | ⟨h1, h2⟩
      · generalize (mWord t_HEAD s).2 = s1 at h2 h4
        refine Or.inl ⟨h1, ⟨h2.1, h2.2.1, h2.2.2.1, h2.2.2.2.1, h2.2.2.2.2⟩, ?_⟩
        rw [h3]
        unfold kv0
        rw [if_neg hx]
        rfl
      · generalize (mWord t_HEAD s).2 = s1 at h2
        exact Or.inr ⟨h1, h2⟩
    · rw [if_neg q, if_neg q]
      exact (hw 1 t_GET (by decide)).mono (fun st' s' n => ⟨n.1, by rw [n.2.1]; unfold kv0; rw [if_neg hx, if_pos n.2.2]⟩)
def fF2 (T : TX) (st : RS) : Bool × RS := bnd (fTake T st 32) (fun s => bnd (fTake T s 47) (fun s => bnd (fTgt T s) (fun s => bnd (fTake T s 10) (fun s => (true, s)))))
def mT0 (x : Int32) (s : MS) : MS := mTgtB (wR (wR (mNum s 31).2 6 (mNum s 31).1) 7 0) x
theorem kb_tB {x : Int32} : Kb (fun s => mTgtB s x) := fun s h => by
  show gR (mTgtB s x) 4 = 1 ∧ gR (mTgtB s x) 5 = gR s 5
  unfold mTgtB
  rw [if_neg (b1n h)]
  exact kb_exp (c := 10) s h
theorem kb_t0 {x : Int32} : Kb (fun s => mT0 x s) := fun s h => by
  have e : mNum s 31 = (-1, s) := by unfold mNum; rw [if_neg (b1n h)]
  show gR (mT0 x s) 4 = 1 ∧ gR (mT0 x s) 5 = gR s 5
  unfold mT0
  rw [e]
  exact kb_tB (x := x) (wR (wR s 6 (-1)) 7 0) h
theorem vl_7 {x : Int32} {v r : Nat → Int32} {s : MS} {y : Int32} (h : Vl x v r s) : Vl x (upd v 2 y) r (wR s 7 y) := by
  obtain ⟨v0, v1, v2, p⟩ := h
  exact ⟨v0, v1, rfl, p⟩
theorem ok_t0 {T : TX} {x : Int32} {st : RS} {s : MS} (h : Fs T x st s) (h0 : rVs st 0 = kv0 s x) : Ok (Sm T x) (bnd (fTgt T st) (fun s => bnd (fTake T s 10) (fun s => (true, s)))) (mT0 x s) := by
  have e : (fun s => bnd (fTake T s 10) (fun s => (true, s))) = (fun s => fTake T s 10) := by funext s; exact bnd_id _
  rw [e]
  unfold fTgt mT0
  rw [bnd_as]
  rcases ok_num (m := 31) h.1 with ⟨n1, n2, n3, -⟩ | ⟨n1, n2⟩
  · rw [bnd_t n1, n3]
    have g := fs_nx h n2
    have g0 : rVs (fNum T st 31).2 0 = kv0 (mNum s 31).2 x := by rw [n2.2.1.2.2.2.2.1, h0]; exact (kv0_kq (kq_num.2 15 (by decide))).symm
    generalize (mNum s 31).2 = s1 at g g0
    generalize (fNum T st 31).2 = st1 at g g0
    have e1 : rVs (dSet st1 1 (rNb st1)) = upd (rVs st1) 1 (rNb st1) := hset1 _ _
    have g2 : Sm T x (dSet st1 1 (rNb st1)) (wR (wR s1 6 (rNb st1)) 7 0) := by
      refine ⟨g.1, g.2.1, g.2.2.1, ?_⟩
      rw [e1]
      exact ⟨g0, rfl, g.2.2.2.2, vp_u (Or.inr (Or.inl rfl)) g.2.2.2.1⟩
    generalize wR (wR s1 6 (rNb st1)) 7 0 = s2 at g2
    generalize dSet st1 1 (rNb st1) = st2 at g2
    have hfin : ∀ (st' : RS) (s' : MS), Sm T x st' s' → Ok (Sm T x) (fTake T st' 10) (mTgtC s') := fun st' s' q => (ok_take (c := 10) (by decide) q.1).mono (fun _ _ n => sm_nx q n)
    unfold fTgtE mTgtB
    rw [if_pos g2.1.2.1]
    rcases g2.2.2.1 with ⟨hx, hk⟩ | ⟨hx, hk⟩
    · rw [hk, if_pos rfl, if_pos hx, bnd_t rfl]
      exact hfin _ _ g2
    · rw [hk, if_neg (show ¬ (0 : Int32) = 1 by decide), if_neg hx]
      by_cases q : mSee s2 = 47
      · have hs := see_lt q (by decide)
        rw [skip_t g2.1 q, if_pos rfl, if_pos q, bnd_as]
        have g3 := sm_nx g2 (nx_nx g2.1 hs)
        generalize mNx s2 = s3 at g3
        generalize nxt st2 = st3 at g3
        show Ok (Sm T x) (bnd (fNum T st3 3) _) _
        rcases ok_num (m := 3) g3.1 with ⟨k1, k2, k3, -⟩ | ⟨k1, k2⟩
        · rw [bnd_t k1, k3, bnd_t rfl]
          have g4 := sm_nx g3 k2
          generalize (mNum s3 3).2 = s4 at g4
          generalize (fNum T st3 3).2 = st4 at g4
          have e2 : rVs (dSet st4 2 (rNb st4)) = upd (rVs st4) 2 (rNb st4) := hset2 _ _
          refine hfin _ _ ⟨g4.1, g4.2.1, g4.2.2.1, ?_⟩
          rw [e2]
          exact vl_7 g4.2.2.2
        · rw [bnd_f k1]
          have kb : gR (mExp (wR (mNum s3 3).2 7 (mNum s3 3).1) 10).2 4 = 1 ∧ gR (mExp (wR (mNum s3 3).2 7 (mNum s3 3).1) 10).2 5 = gR (wR (mNum s3 3).2 7 (mNum s3 3).1) 5 := kb_exp (c := 10) (wR (mNum s3 3).2 7 (mNum s3 3).1) k2.1
          exact Or.inr ⟨rfl, kb.1, kb.2.trans k2.2⟩
      · rw [skip_f g2.1 q, if_neg (fne _), if_neg q, bnd_t rfl]
        exact hfin _ _ g2
  · rw [bnd_f n1]
    have kb : gR (mTgtB (wR (wR (mNum s 31).2 6 (mNum s 31).1) 7 0) x) 4 = 1 ∧ gR (mTgtB (wR (wR (mNum s 31).2 6 (mNum s 31).1) 7 0) x) 5 = gR (wR (wR (mNum s 31).2 6 (mNum s 31).1) 7 0) 5 := kb_tB (x := x) (wR (wR (mNum s 31).2 6 (mNum s 31).1) 7 0) n2.1
    exact Or.inr ⟨rfl, kb.1, kb.2.trans n2.2⟩
theorem fs_take {T : TX} {x : Int32} {st : RS} {s : MS} {c : Int32} (hc : ¬ c = -1) (h : Fs T x st s) (h0 : rVs st 0 = kv0 s x) : Ok (fun st' s' => Fs T x st' s' ∧ rVs st' 0 = kv0 s' x) (fTake T st c) (mExp s c).2 :=
  (ok_take hc h.1).mono (fun st' s' n => ⟨fs_nx h n, by rw [n.2.1.2.2.2.2.1, h0]; exact (kv0_kq (n.2.2.2 15 (by decide))).symm⟩)
theorem ok_tgt {T : TX} {x : Int32} {st : RS} {s : MS} (h : Fs T x st s) (h0 : rVs st 0 = kv0 s x) : Ok (Sm T x) (fF2 T st) (mTgt s x) := by
  show Ok (Sm T x) (fF2 T st) ((fun s => mT0 x (mExp s 47).2) (mExp s 32).2)
  refine ok_bnd (K := fun s => mT0 x (mExp s 47).2) (fs_take (c := 32) (by decide) h h0) (fun st' s' p => ?_) ((kb_exp (c := 47)).cp kb_t0)
  exact ok_bnd (K := fun s => mT0 x s) (fs_take (c := 47) (by decide) p.1 p.2) (fun st' s' p => ok_t0 p.1 p.2) kb_t0
theorem kb_tgt {x : Int32} : Kb (fun s => mTgt s x) := ((kb_exp (c := 32)).cp (kb_exp (c := 47))).cp kb_t0
theorem kq_vb {s : MS} {x : Int32} : Kq [3, 4, 5, 15] s (mVb s x) := by
  unfold mVb
  split
  · exact (kq_word _ _).mono (by decide)
  · split
    · exact ((kq_word _ _).mono (by decide)).tr (Kq.wr (by decide))
    · exact (kq_word _ _).mono (by decide)
theorem fst_eq {T : TX} {st : RS} : fFst T st = bnd (fVerb T st) (fun s => fF2 T s) := rfl
theorem ok_fst {T : TX} {x : Int32} {st : RS} {s : MS} (h : Fs T x st s) (h15 : gR s 15 = 0) : Ok (Sm T x) (fFst T st) (mTgt (mVb s x) x) := by
  rw [fst_eq]
  exact ok_bnd (K := fun s => mTgt s x) (ok_verb h h15) (fun st' s' p => ok_tgt p.1 p.2) kb_tgt
theorem fs_0 {T : TX} {x kd : Int32} {st : RS} {s : MS} (hp : pInv s) (hT : TT T s) (hx : (x = 0 ∧ kd = 1) ∨ (¬ x = 0 ∧ kd = 0)) : Fs T x (sVs (sSk (sPl (sNm (sKd st kd) 0) 0) (-1)) (va_cpy at0 (rVs st) 0 0 18)) (mRst s) := by
  refine ⟨⟨rfl, rfl, inv_rst2 hp, hT, rfl⟩, ⟨rfl, fun k hk => ?_⟩, hx, vp_0, rfl⟩
  exact absurd hk (show ¬ (k : Int) < 0 by omega)
theorem ok_txt {T : TX} {x kd : Int32} {st : RS} {s : MS} (hp : pInv s) (hT : TT T s) (hx : (x = 0 ∧ kd = 1) ∨ (¬ x = 0 ∧ kd = 0)) : Tx x (fTxt T st kd) (mTxt s x) := by
  have h0 := fs_0 (st := st) hp hT hx
  have z26 : gR (mRst s) 26 = 0 := rfl
  have z11 : gR (mRst s) 11 = 0 := rfl
  have z8 : gR (mRst s) 8 = 0 := rfl
  have z15 : gR (mRst s) 15 = 0 := rfl
  unfold fTxt mTxt
  rw [txtA_eq]
  generalize mRst s = s0 at h0 z26 z11 z8 z15
  generalize sVs (sSk (sPl (sNm (sKd st kd) 0) 0) (-1)) (va_cpy at0 (rVs st) 0 0 18) = st0 at h0
  have hF := ok_fst h0 z15
  have e26 : gR (mTgt (mVb s0 x) x) 26 = 0 := by rw [kq_tgt.2 26 (by decide), kq_vb.2 26 (by decide)]; exact z26
  have e11 : gR (mTgt (mVb s0 x) x) 11 = 0 := by rw [kq_tgt.2 11 (by decide), kq_vb.2 11 (by decide)]; exact z11
  have e8 : gR (mTgt (mVb s0 x) x) 8 = 0 := by rw [kq_tgt.2 8 (by decide), kq_vb.2 8 (by decide)]; exact z8
  generalize mTgt (mVb s0 x) x = s1 at hF e26 e11 e8
  generalize fFst T st0 = q at hF
  rcases hF with ⟨h1, h2⟩ | ⟨h1, h2⟩
  · rw [bnd_t h1]
    refine ok_txtL 101 301 _ _ ⟨h2, ⟨?_, Or.inl e11⟩, Or.inl e8, ?_⟩ ?_ (li_0 h2.1.2.2.1)
    · unfold mB8; rw [e11]; decide
    · rw [e26]; have := h2.1.2.2.1.1; rw [i0]; omega
    · rw [e26, i0]; rfl
  · rw [bnd_f h1, txtL_bad h2.1]
    exact txt_bad h2
/-! what mTxt leaves -/
theorem txtE_k {s : MS} : Kx s (mTxtE s).2 ∧ gR (mTxtE s).2 1 = 0 := by
  refine ⟨kq_txtE.kx (by decide) (by decide) (by decide), ?_⟩
  have hX : ∀ t : MS, (mTxtX t).2 = t := fun t => by unfold mTxtX; split <;> rfl
  have hW : ∀ t : MS, gR t 1 = 0 → gR (mTxtW t).2 1 = 0 := by
    intro t ht
    unfold mTxtW
    split
    · rw [hX]; exact ht
    · rw [hX]; exact ht
  unfold mTxtE mTxtU
  split
  · split
    · exact hW _ rfl
    · exact hW _ rfl
  · exact hW _ rfl
theorem txtL_k {x : Int32} : ∀ (k : Nat) (s : MS), Kx s (mTxtL k x s).2 ∧ gR (mTxtL k x s).2 1 = 0 := by
  intro k
  induction k with
  | zero => intro s; exact txtE_k
  | succ k ih =>
    intro s
    unfold mTxtL
    split
    · split
      · exact txtE_k
      · obtain ⟨i1, i2⟩ := ih (mLine s x)
        exact ⟨kx_line.tr i1, i2⟩
    · exact txtE_k
theorem txt_k {x : Int32} {s : MS} : Kx s (mTxt s x).2 ∧ gR (mTxt s x).2 1 = 0 := by
  unfold mTxt
  rw [txtA_eq]
  obtain ⟨i1, i2⟩ := txtL_k (x := x) 301 (mTgt (mVb (mRst s) x) x)
  have h0 : Kx s (mRst s) := ⟨rfl, rfl, rfl, rfl, rfl⟩
  exact ⟨h0.tr ((kq_vb.kx (by decide) (by decide) (by decide)).tr ((kq_tgt.kx (by decide) (by decide) (by decide)).tr i1)), i2⟩
/-! keep -/
theorem th_eq {s : MS} {k : Nat} : ∀ (r i : Nat) (t : Bool), thL s k r i t = (t || hs (gKm s) ((gMt s) k) r i) := by
  intro r
  induction r with
  | zero => intro i t; cases t <;> rfl
  | succ r ih =>
    intro i t
    unfold thL hs
    rw [ih]
    cases t with
    | true => simp
    | false =>
      by_cases q : gKm s i = gMt s k
      · rw [if_pos q]; simp [q]
      · rw [if_neg q]; simp [q]
theorem kpL_k : ∀ (r k : Nat) (s : MS), gKp (mKpL r k s) = gKp s ∧ gMt (mKpL r k s) = gMt s ∧ ∀ q, q ≠ 27 → gR (mKpL r k s) q = gR s q := by
  intro r
  induction r with
  | zero => intro k s; exact ⟨rfl, rfl, fun _ _ => rfl⟩
  | succ r ih =>
    intro k s
    unfold mKpL
    split
    · exact ih (k + 1) s
    · obtain ⟨i1, i2, i3⟩ := ih (k + 1) (kA s k)
      refine ⟨i1, i2, fun q hq => (i3 q hq).trans ?_⟩
      show (if q = 27 then _ else s.1 q) = s.1 q
      rw [if_neg hq]
theorem kpL_d {g0 mt : Nat → Int32} : ∀ (r k : Nat) (s : MS), gMt s = mt → gR s 27 = nI (dd g0 mt k).1 → gKm s = (dd g0 mt k).2 → k + r ≤ 8 → gR (mKpL r k s) 27 = nI (dd g0 mt (k + r)).1 ∧ gKm (mKpL r k s) = (dd g0 mt (k + r)).2 := by
  intro r
  induction r with
  | zero => intro k s _ h1 h2 _; exact ⟨h1, h2⟩
  | succ r ih =>
    intro k s hm h1 h2 hk
    have hl := dd_le g0 mt k
    unfold mKpL
    rw [th_eq, Bool.false_or, h1, nI_clamp (by omega), h2, hm]
    have e : k + (r + 1) = k + 1 + r := by omega
    rw [e]
    by_cases q : hs (dd g0 mt k).2 (mt k) (dd g0 mt k).1 0 = true
    · rw [if_pos q]
      have ed : dd g0 mt (k + 1) = dd g0 mt k := by show ddA (dd g0 mt k) (mt k) = _; unfold ddA; rw [if_pos q]
      exact ih (k + 1) s hm (by rw [ed]; exact h1) (by rw [ed]; exact h2) (by omega)
    · rw [if_neg q]
      have ed : dd g0 mt (k + 1) = ((dd g0 mt k).1 + 1, upd (dd g0 mt k).2 (dd g0 mt k).1 (mt k)) := by show ddA (dd g0 mt k) (mt k) = _; unfold ddA; rw [if_neg q]
      refine ih (k + 1) (kA s k) hm ?_ ?_ (by omega)
      · rw [ed]
        show gR s 27 + 1 = nI ((dd g0 mt k).1 + 1)
        rw [h1, nI_succ]
      · rw [ed]
        show upd (gKm s) (gR s 27).toNatClampNeg ((gMt s) k) = upd (dd g0 mt k).2 (dd g0 mt k).1 (mt k)
        rw [h1, nI_clamp (by omega), h2, hm]
theorem hs_ext {g h : Nat → Int32} {x : Int32} {n : Nat} (e : ∀ i, i < n → g i = h i) : ∀ (r i : Nat), i + r ≤ n → hs g x r i = hs h x r i := by
  intro r
  induction r with
  | zero => intro i _; rfl
  | succ r ih =>
    intro i hi
    unfold hs
    rw [e i (by omega), ih (i + 1) (by omega)]
theorem dd_ext (r0 g0 mt : Nat → Int32) : ∀ m : Nat, (dd r0 mt m).1 = (dd g0 mt m).1 ∧ ∀ i, i < (dd r0 mt m).1 → (dd r0 mt m).2 i = (dd g0 mt m).2 i := by
  intro m
  induction m with
  | zero => exact ⟨rfl, fun i hi => absurd hi (Nat.not_lt_zero i)⟩
  | succ m ih =>
    obtain ⟨i1, i2⟩ := ih
    have e := hs_ext (x := mt m) i2 (dd r0 mt m).1 0 (by omega)
    show (ddA (dd r0 mt m) (mt m)).1 = (ddA (dd g0 mt m) (mt m)).1 ∧ ∀ i, i < (ddA (dd r0 mt m) (mt m)).1 → (ddA (dd r0 mt m) (mt m)).2 i = (ddA (dd g0 mt m) (mt m)).2 i
    unfold ddA
    rw [e, i1]
    by_cases q : hs (dd g0 mt m).2 (mt m) (dd g0 mt m).1 0 = true
    · rw [if_pos q, if_pos q]
      exact ⟨i1, i2⟩
    · rw [if_neg q, if_neg q]
      refine ⟨rfl, fun i hi => ?_⟩
      have hi2 : i < (dd g0 mt m).1 + 1 := hi
      show upd (dd r0 mt m).2 (dd g0 mt m).1 (mt m) i = upd (dd g0 mt m).2 (dd g0 mt m).1 (mt m) i
      by_cases z : i = (dd g0 mt m).1
      · rw [z, pk_us, pk_us]
      · rw [pk_un z, pk_un z]
        exact i2 i (by omega)
def mK7 (s : MS) (x : Int32) : MS := wR (kS (kS (kS (kS (kS (kS (kS s 0 (kv0 s x)) 1 (gR s 6)) 2 (gR s 7)) 3 (gR s 8)) 4 (kv4 s)) 5 (kv5 s)) 6 (kv6 s)) 27 0
theorem row_z (s : MS) : gKp (mKz s) = upd (gKp s) 17 (gR s 23) := rfl
theorem reg_z (s : MS) (q : Nat) : gR (mKz s) q = gR s q := rfl
theorem kmr_z (s : MS) : gKm (mKz s) = gKm s := rfl
theorem row_y (s : MS) : gKp (mKy s) = upd (upd (gKp s) 16 (gR s 22)) 17 (gR s 23) := by unfold mKy; rw [row_z]; rfl
theorem reg_y (s : MS) (q : Nat) : gR (mKy s) q = gR s q := by unfold mKy; rw [reg_z]; rfl
theorem kmr_y (s : MS) : gKm (mKy s) = gKm s := by unfold mKy; rw [kmr_z]; rfl
theorem row_x (s : MS) : gKp (mKx s) = upd (upd (upd (gKp s) 15 (kv15 s)) 16 (gR s 22)) 17 (gR s 23) := by unfold mKx; rw [row_y]; rfl
theorem reg_x (s : MS) (q : Nat) : gR (mKx s) q = gR s q := by unfold mKx; rw [reg_y]; rfl
theorem kmr_x (s : MS) : gKm (mKx s) = gKm s := by unfold mKx; rw [kmr_y]; rfl
theorem row_w (s : MS) : gKp (mKw s) = upd (upd (upd (upd (gKp s) 14 (gR s 14)) 15 (kv15 s)) 16 (gR s 22)) 17 (gR s 23) := by unfold mKw; rw [row_x]; rfl
theorem reg_w (s : MS) (q : Nat) : gR (mKw s) q = gR s q := by unfold mKw; rw [reg_x]; rfl
theorem kmr_w (s : MS) : gKm (mKw s) = gKm s := by unfold mKw; rw [kmr_x]; rfl
theorem row_v (s : MS) : gKp (mKv s) = upd (upd (upd (upd (upd (gKp s) 13 (gR s 13)) 14 (gR s 14)) 15 (kv15 s)) 16 (gR s 22)) 17 (gR s 23) := by unfold mKv; rw [row_w]; rfl
theorem reg_v (s : MS) (q : Nat) : gR (mKv s) q = gR s q := by unfold mKv; rw [reg_w]; rfl
theorem kmr_v (s : MS) : gKm (mKv s) = gKm s := by unfold mKv; rw [kmr_w]; rfl
theorem row_u (s : MS) (x : Int32) : gKp (mKu s x) = upd (upd (upd (upd (upd (upd (gKp s) 12 (kv12 s x)) 13 (gR s 13)) 14 (gR s 14)) 15 (kv15 s)) 16 (gR s 22)) 17 (gR s 23) := by unfold mKu; rw [row_v]; rfl
theorem reg_u (s : MS) (x : Int32) (q : Nat) : gR (mKu s x) q = gR s q := by unfold mKu; rw [reg_v]; rfl
theorem kmr_u (s : MS) (x : Int32) : gKm (mKu s x) = gKm s := by unfold mKu; rw [kmr_v]; rfl
theorem row_t (s : MS) (x : Int32) : gKp (mKt s x) = upd (upd (upd (upd (upd (upd (upd (gKp s) 11 (kv11 s)) 12 (kv12 s x)) 13 (gR s 13)) 14 (gR s 14)) 15 (kv15 s)) 16 (gR s 22)) 17 (gR s 23) := by unfold mKt; rw [row_u]; rfl
theorem reg_t (s : MS) (x : Int32) (q : Nat) : gR (mKt s x) q = gR s q := by unfold mKt; rw [reg_u]; rfl
theorem kmr_t (s : MS) (x : Int32) : gKm (mKt s x) = gKm s := by unfold mKt; rw [kmr_u]; rfl
theorem row_s (s : MS) (x : Int32) : gKp (mKs s x) = upd (upd (upd (upd (upd (upd (upd (upd (gKp s) 10 (kv10 s)) 11 (kv11 s)) 12 (kv12 s x)) 13 (gR s 13)) 14 (gR s 14)) 15 (kv15 s)) 16 (gR s 22)) 17 (gR s 23) := by unfold mKs; rw [row_t]; rfl
theorem reg_s (s : MS) (x : Int32) (q : Nat) : gR (mKs s x) q = gR s q := by unfold mKs; rw [reg_t]; rfl
theorem kmr_s (s : MS) (x : Int32) : gKm (mKs s x) = gKm s := by unfold mKs; rw [kmr_t]; rfl
theorem row_r (s : MS) (x : Int32) : gKp (mKr s x) = upd (upd (upd (upd (upd (upd (upd (upd (upd (gKp s) 9 (gR s 20)) 10 (kv10 s)) 11 (kv11 s)) 12 (kv12 s x)) 13 (gR s 13)) 14 (gR s 14)) 15 (kv15 s)) 16 (gR s 22)) 17 (gR s 23) := by unfold mKr; rw [row_s]; rfl
theorem reg_r (s : MS) (x : Int32) (q : Nat) : gR (mKr s x) q = gR s q := by unfold mKr; rw [reg_s]; rfl
theorem kmr_r (s : MS) (x : Int32) : gKm (mKr s x) = gKm s := by unfold mKr; rw [kmr_s]; rfl
theorem row_q (s : MS) (x : Int32) : gKp (mKq s x) = upd (upd (upd (upd (upd (upd (upd (upd (upd (upd (gKp s) 8 (gR s 19)) 9 (gR s 20)) 10 (kv10 s)) 11 (kv11 s)) 12 (kv12 s x)) 13 (gR s 13)) 14 (gR s 14)) 15 (kv15 s)) 16 (gR s 22)) 17 (gR s 23) := by unfold mKq; rw [row_r]; rfl
theorem reg_q (s : MS) (x : Int32) (q : Nat) : gR (mKq s x) q = gR s q := by unfold mKq; rw [reg_r]; rfl
theorem kmr_q (s : MS) (x : Int32) : gKm (mKq s x) = gKm s := by unfold mKq; rw [kmr_r]; rfl
theorem row_p (s : MS) (x : Int32) : gKp (mKp s x) = upd (upd (upd (upd (upd (upd (upd (upd (upd (upd (upd (gKp s) 7 (gR s 27)) 8 (gR s 19)) 9 (gR s 20)) 10 (kv10 s)) 11 (kv11 s)) 12 (kv12 s x)) 13 (gR s 13)) 14 (gR s 14)) 15 (kv15 s)) 16 (gR s 22)) 17 (gR s 23) := by unfold mKp; rw [row_q]; rfl
theorem reg_p (s : MS) (x : Int32) (q : Nat) : gR (mKp s x) q = gR s q := by unfold mKp; rw [reg_q]; rfl
theorem kmr_p (s : MS) (x : Int32) : gKm (mKp s x) = gKm s := by unfold mKp; rw [kmr_q]; rfl
theorem keep_eq {s : MS} {x : Int32} : mKeep s x = mKp (mKpL (gR s 11).toNatClampNeg 0 (mK7 s x)) x := by unfold mKeep mKh mKi mKj mKk mKl mKm mKn mKo mK7; rfl
theorem row_7 (s : MS) (x : Int32) : gKp (mK7 s x) = upd (upd (upd (upd (upd (upd (upd (gKp s) 0 (kv0 s x)) 1 (gR s 6)) 2 (gR s 7)) 3 (gR s 8)) 4 (kv4 s)) 5 (kv5 s)) 6 (kv6 s) := rfl
theorem reg_7 (s : MS) (x : Int32) (q : Nat) (h : q ≠ 27) : gR (mK7 s x) q = gR s q := by show (if q = 27 then 0 else s.1 q) = s.1 q; rw [if_neg h]
theorem keep_ok {s : MS} {x : Int32} {v r : Nat → Int32} (h : Vl x v r s) : Vk v r (mKeep s x) ∧ gR (mKeep s x) 1 = gR s 1 ∧ gR (mKeep s x) 2 = gR s 2 ∧ gR (mKeep s x) 28 = gR s 28 ∧ gR (mKeep s x) 0 = gR s 0 ∧ gR (mKeep s x) 27 = v 7 := by
  obtain ⟨v0, v1, v2, v3, v4, v5, v6, v8, v9, v10, v11, v12, v13, v14, v15, v16, v17, ⟨m, r0, d1, d2, d3, d4⟩, g1, g2, g3⟩ := h
  rw [keep_eq, d2, nI_clamp (by omega)]
  obtain ⟨k1, k2, k3⟩ := kpL_k m 0 (mK7 s x)
  have kd := kpL_d (g0 := gKm s) (mt := gMt s) m 0 (mK7 s x) rfl rfl rfl (by omega)
  have h7 := reg_7 s x
  have hw := row_7 s x
  rw [Nat.zero_add] at kd
  generalize mK7 s x = s7 at k1 k2 k3 kd h7 hw
  generalize mKpL m 0 s7 = sL at k1 k2 k3 kd
  obtain ⟨kd1, kd2⟩ := kd
  have hr : ∀ q, q ≠ 27 → gR sL q = gR s q := fun q hq => (k3 q hq).trans (h7 q hq)
  obtain ⟨x1, x2⟩ := dd_ext r0 (gKm s) (gMt s) m
  have hl := dd_le r0 (gMt s) m
  have e10 : kv10 sL = kv10 s := by unfold kv10; rw [hr 17 (by decide), hr 25 (by decide)]
  have e11 : kv11 sL = kv11 s := by unfold kv11; rw [hr 18 (by decide)]
  have e12 : kv12 sL x = kv12 s x := by unfold kv12; rw [hr 21 (by decide), hr 12 (by decide)]
  have e15 : kv15 sL = kv15 s := by unfold kv15; rw [hr 24 (by decide)]
  have hp := row_p sL x
  rw [k1, hw, kd1, hr 19 (by decide), hr 20 (by decide), e10, e11, e12, hr 13 (by decide), hr 14 (by decide), e15, hr 22 (by decide), hr 23 (by decide), ← x1] at hp
  have hg := reg_p sL x
  have hm := kmr_p sL x
  generalize mKp sL x = sK at hp hg hm
  have p3 : gKp sK 3 = gR s 8 := by rw [hp]; rfl
  have p4 : gKp sK 4 = kv4 s := by rw [hp]; rfl
  have p5 : gKp sK 5 = kv5 s := by rw [hp]; rfl
  refine ⟨⟨?_, ⟨(dd r0 (gMt s) m).1, by omega, d3, ?_, ?_⟩, ?_, ?_, ?_⟩, (hg 1).trans (hr 1 (by decide)), (hg 2).trans (hr 2 (by decide)), (hg 28).trans (hr 28 (by decide)), (hg 0).trans (hr 0 (by decide)), ?_⟩
  · intro i hi
    rw [hp]
    match i, hi with
    | 0, _ => exact v0
    | 1, _ => exact v1
    | 2, _ => exact v2
    | 3, _ => exact v3
    | 4, _ => exact v4
    | 5, _ => exact v5
    | 6, _ => exact v6
    | 7, _ => exact d3
    | 8, _ => exact v8
    | 9, _ => exact v9
    | 10, _ => exact v10
    | 11, _ => exact v11
    | 12, _ => exact v12
    | 13, _ => exact v13
    | 14, _ => exact v14
    | 15, _ => exact v15
    | 16, _ => exact v16
    | 17, _ => exact v17
    | i + 18, hi => omega
  · rw [hg 27, kd1, ← x1]
  · intro i hi
    rw [hm, kd2, d4]
    exact x2 i hi
  · rw [p3]; exact g1
  · rw [p3, p4]
    intro q
    unfold kv4
    rw [if_neg q]
    exact g2 q
  · rw [p3, p5]
    intro q
    unfold kv5
    rw [if_pos q]
    exact g3 q
  · rw [hg 27, kd1, ← x1]
    exact d3.symm
