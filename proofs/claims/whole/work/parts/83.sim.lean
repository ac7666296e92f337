/-! THE CLASS AND THE REFERENCE GO ALIKE: single steps -/
def TT (T : TX) (s : MS) : Prop := T.2 = gR s 1 ∧ ∀ i : Nat, (i : Int) < (gR s 1).toInt → T.1 i = gTp s i ∧ ¬ gTp s i = -1
def Co (T : TX) (st : RS) (s : MS) : Prop := rPl st = gR s 3 ∧ gR s 4 = 0 ∧ mInv s ∧ TT T s ∧ rSk st = -1
/-- names, kind, rows and values stay -/
def Fr (a b : RS) : Prop := rNm b = rNm a ∧ rKd b = rKd a ∧ rNs b = rNs a ∧ rNe b = rNe a ∧ rVs b = rVs a ∧ rVr b = rVr a
theorem Fr.rf {a : RS} : Fr a a := ⟨rfl, rfl, rfl, rfl, rfl, rfl⟩
theorem Fr.tr {a b c : RS} (h : Fr a b) (g : Fr b c) : Fr a c := ⟨g.1.trans h.1, g.2.1.trans h.2.1, g.2.2.1.trans h.2.2.1, g.2.2.2.1.trans h.2.2.2.1, g.2.2.2.2.1.trans h.2.2.2.2.1, g.2.2.2.2.2.trans h.2.2.2.2.2⟩
def Bad (q : RS) (s : MS) : Prop := gR s 4 = 1 ∧ gR s 5 = rSk q
def Ok (P : RS → MS → Prop) (q : Bool × RS) (s : MS) : Prop := (q.1 = true ∧ P q.2 s) ∨ (q.1 = false ∧ Bad q.2 s)
/-- what is bad stays bad, at its place -/
def Kb (K : MS → MS) : Prop := ∀ s, gR s 4 = 1 → gR (K s) 4 = 1 ∧ gR (K s) 5 = gR s 5
theorem Kb.cp {K L : MS → MS} (h : Kb K) (g : Kb L) : Kb (fun s => L (K s)) := fun s q => ⟨(g _ (h s q).1).1, (g _ (h s q).1).2.trans (h s q).2⟩
theorem ok_bnd {P R : RS → MS → Prop} {q : Bool × RS} {s : MS} {k : RS → Bool × RS} {K : MS → MS} (h : Ok P q s) (hk : ∀ st' s', P st' s' → Ok R (k st') (K s')) (hb : Kb K) : Ok R (bnd q k) (K s) := by
  rcases h with ⟨h1, h2⟩ | ⟨h1, h2, h3⟩
  · rw [bnd_t h1]; exact hk _ _ h2
  · rw [bnd_f h1]
    have g := hb s h2
    exact Or.inr ⟨rfl, g.1, g.2.trans h3⟩
theorem Ok.mono {P R : RS → MS → Prop} {q : Bool × RS} {s : MS} (h : Ok P q s) (hk : ∀ st' s', P st' s' → R st' s') : Ok R q s := by
  rcases h with ⟨h1, h2⟩ | h
  · exact Or.inl ⟨h1, hk _ _ h2⟩
  · exact Or.inr h
/-- one step further, nothing else -/
def Nx (T : TX) (st : RS) (s : MS) (st' : RS) (s' : MS) : Prop := Co T st' s' ∧ Fr st st' ∧ Kq L3 s s'
theorem Nx.tr {T : TX} {a b c : RS} {s t u : MS} (h : Nx T a s b t) (g : Nx T b t c u) : Nx T a s c u := ⟨g.1, h.2.1.tr g.2.1, h.2.2.tr g.2.2⟩
theorem TT.kq {T : TX} {L : List Nat} {s t : MS} (h : Kq L s t) (h1 : 1 ∉ L) (g : TT T s) : TT T t := by
  have e : gTp t = gTp s := by unfold gTp; rw [h.1]
  unfold TT
  rw [h.2 1 h1, e]
  exact g
theorem i0 : (0 : Int32).toInt = 0 := by decide
theorem i1 : (1 : Int32).toInt = 1 := by decide
theorem mAt_see {T : TX} {s : MS} {x : Int32} (g : TT T s) (h0 : 0 ≤ x.toInt) (h1 : x.toInt < (gR s 1).toInt) : mAt T x = gTp s x.toNatClampNeg := by
  unfold mAt
  have e0 : ¬ x < 0 := by rw [i_lt, i0]; omega
  have e1 : ¬ T.2 ≤ x := by rw [g.1, i_le]; omega
  rw [if_neg e0, if_neg e1]
  refine (g.2 _ ?_).1
  show ((x.toInt.toNat : Nat) : Int) < (gR s 1).toInt
  omega
theorem see_end {T : TX} {s : MS} (g : TT T s) (hv : mInv s) (h : mSee s = -1) : gR s 1 ≤ gR s 3 := by
  by_cases q : gR s 1 ≤ gR s 3
  · exact q
  · exfalso
    unfold mSee at h
    rw [if_neg q] at h
    rw [i_le] at q
    refine (g.2 _ ?_).2 h
    have := hv.1
    show (((gR s 3).toInt.toNat : Nat) : Int) < (gR s 1).toInt
    omega
theorem mark_eq {T : TX} {st : RS} {s : MS} (h : Co T st s) : fMark T st = mSee s := by
  obtain ⟨h1, h2, h3, h4, -⟩ := h
  show mAt T (rPl st) = mSee s
  rw [h1]
  by_cases q : gR s 1 ≤ gR s 3
  · unfold mAt mSee
    rw [if_pos q, h4.1, if_pos q]
    split <;> rfl
  · unfold mSee
    rw [if_neg q]
    rw [i_le] at q
    exact mAt_see h4 h3.1 (by omega)
theorem co_nx {T : TX} {st : RS} {s : MS} (h : Co T st s) (hs : ¬ gR s 1 ≤ gR s 3) : Co T (nxt st) (mNx s) := ⟨by show rPl st + 1 = gR s 3 + 1; rw [h.1], h.2.1, inv_nx h.2.2.1 hs, h.2.2.2⟩
theorem nx_nx {T : TX} {st : RS} {s : MS} (h : Co T st s) (hs : ¬ gR s 1 ≤ gR s 3) : Nx T st s (nxt st) (mNx s) := ⟨co_nx h hs, ⟨rfl, rfl, rfl, rfl, rfl, rfl⟩, kq_nx⟩
theorem bad_wr {s : MS} {p : Int32} (h : gR s 4 = 0) : gR (mWr s p) 4 = 1 ∧ gR (mWr s p) 5 = p := by
  unfold mWr
  rw [if_pos h]
  exact ⟨rfl, rfl⟩
theorem b1n {s : MS} (h : gR s 4 = 1) : ¬ gR s 4 = 0 := by rw [h]; decide
theorem kb_wr {p : Int32} : Kb (fun s => mWr s p) := fun s h => by
  show gR (mWr s p) 4 = 1 ∧ gR (mWr s p) 5 = gR s 5
  unfold mWr
  rw [if_neg (b1n h)]
  exact ⟨h, rfl⟩
theorem kb_exp {c : Int32} : Kb (fun s => (mExp s c).2) := fun s h => by
  show gR (mExp s c).2 4 = 1 ∧ gR (mExp s c).2 5 = gR s 5
  unfold mExp
  rw [if_neg (b1n h)]
  exact ⟨h, rfl⟩
theorem kb_num {m : Int32} : Kb (fun s => (mNum s m).2) := fun s h => by
  show gR (mNum s m).2 4 = 1 ∧ gR (mNum s m).2 5 = gR s 5
  unfold mNum
  rw [if_neg (b1n h)]
  exact ⟨h, rfl⟩
theorem kb_reg {k : Nat} {f : MS → Int32} (h4 : 4 ≠ k) (h5 : 5 ≠ k) : Kb (fun s => wR s k (f s)) := fun s h => by
  have e : ∀ j, j ≠ k → gR (wR s k (f s)) j = gR s j := fun j hj => by
    show (if j = k then f s else s.1 j) = s.1 j
    rw [if_neg hj]
  exact ⟨(e 4 h4).trans h, e 5 h5⟩
theorem take_t {T : TX} {st : RS} {s : MS} {c : Int32} (h : Co T st s) (q : mSee s = c) : fTake T st c = (true, nxt st) ∧ mExp s c = (true, mNx s) := by
  refine ⟨?_, ?_⟩
  · unfold fTake; rw [mark_eq h, if_pos q]
  · unfold mExp; rw [if_pos h.2.1, if_pos q]
theorem take_f {T : TX} {st : RS} {s : MS} {c : Int32} (h : Co T st s) (q : ¬ mSee s = c) : fTake T st c = (false, sSk st (rPl st)) ∧ mExp s c = (false, mWr s (gR s 3)) := by
  refine ⟨?_, ?_⟩
  · unfold fTake; rw [mark_eq h, if_neg q]
  · unfold mExp; rw [if_pos h.2.1, if_neg q]
theorem bad_here {T : TX} {st : RS} {s : MS} (h : Co T st s) : Bad (sSk st (rPl st)) (mWr s (gR s 3)) := ⟨(bad_wr h.2.1).1, (bad_wr h.2.1).2.trans h.1.symm⟩
theorem ok_take {T : TX} {st : RS} {s : MS} {c : Int32} (hc : ¬ c = -1) (h : Co T st s) : Ok (Nx T st s) (fTake T st c) (mExp s c).2 := by
  by_cases q : mSee s = c
  · rw [(take_t h q).1, (take_t h q).2]
    exact Or.inl ⟨rfl, nx_nx h (see_lt q hc)⟩
  · rw [(take_f h q).1, (take_f h q).2]
    exact Or.inr ⟨rfl, bad_here h⟩
theorem skip_t {T : TX} {st : RS} {s : MS} {c : Int32} (h : Co T st s) (q : mSee s = c) : fSkip T st c = (true, nxt st) := by unfold fSkip; rw [mark_eq h, if_pos q]
theorem skip_f {T : TX} {st : RS} {s : MS} {c : Int32} (h : Co T st s) (q : ¬ mSee s = c) : fSkip T st c = (false, st) := by unfold fSkip; rw [mark_eq h, if_neg q]
theorem ok_all {T : TX} : ∀ (w : List Int32) (st : RS) (s : MS), (∀ c ∈ w, ¬ c = -1) → Co T st s → Ok (Nx T st s) (fAll T w st) (mWord w s).2 := by
  intro w
  induction w with
  | nil => intro st s _ h; exact Or.inl ⟨rfl, h, Fr.rf, Kq.rf⟩
  | cons c cs ih =>
    intro st s hw h
    show Ok (Nx T st s) (if fMark T st = c then fAll T cs (nxt st) else fStop st (rPl st)) (bnM (mExp s c) (fun s => mWord cs s)).2
    rw [mark_eq h]
    by_cases q : mSee s = c
    · rw [if_pos q, (take_t h q).2]
      have hs := see_lt q (hw c List.mem_cons_self)
      exact (ih _ _ (fun c hc => hw c (List.mem_cons_of_mem _ hc)) (co_nx h hs)).mono (fun _ _ g => (nx_nx h hs).tr g)
    · rw [if_neg q, (take_f h q).2]
      exact Or.inr ⟨rfl, bad_here h⟩
theorem kb_word : ∀ (w : List Int32), Kb (fun s => (mWord w s).2) := by
  intro w
  induction w with
  | nil => intro s h; exact ⟨h, rfl⟩
  | cons c cs ih =>
    intro s h
    show gR (bnM (mExp s c) (fun s => mWord cs s)).2 4 = 1 ∧ gR (bnM (mExp s c) (fun s => mWord cs s)).2 5 = gR s 5
    have e : mExp s c = (false, s) := by unfold mExp; rw [if_neg (b1n h)]
    rw [e]
    exact ⟨h, rfl⟩
/-! numbers -/
theorem isD_b {c : Int32} (h : isD c = true) : 48 ≤ c.toInt ∧ c.toInt ≤ 57 := by
  unfold isD at h
  have e1 : (48 : Int32).toInt = 48 := by decide
  have e2 : (57 : Int32).toInt = 57 := by decide
  split at h
  · exact absurd h (by decide)
  · rename_i q1
    split at h
    · exact absurd h (by decide)
    · rename_i q2
      rw [i_lt] at q1 q2
      omega
theorem nb_ring (v m : Int32) : v * 10 + (m - 48) = 10 * v + m - 48 := by
  rw [Int32.mul_comm, Int32.sub_eq_add_neg, Int32.sub_eq_add_neg, Int32.add_assoc]
theorem dg_eq {T : TX} {fr : Int32} : ∀ (k : Nat) (st : RS) (s : MS), Co T st s → Nx T st s (fNumL T k st) (mNumL fr k s (rNb st)).1 ∧ rNb (fNumL T k st) = (mNumL fr k s (rNb st)).2 := by
  intro k
  induction k with
  | zero => intro st s h; exact ⟨⟨h, Fr.rf, Kq.rf⟩, rfl⟩
  | succ k ih =>
    intro st s h
    unfold fNumL mNumL
    rw [mark_eq h]
    by_cases q : isD (mSee s) = true
    · rw [if_pos q, if_pos q]
      have hs := see_lt rfl (isD_ne q)
      have hc : Co T (numS T st) (mNx s) := co_nx h hs
      have hn : Nx T st s (numS T st) (mNx s) := ⟨hc, ⟨rfl, rfl, rfl, rfl, rfl, rfl⟩, kq_nx⟩
      have e : rNb (numS T st) = 10 * rNb st + mSee s - 48 := by
        show rNb st * 10 + (fMark T st - 48) = _
        rw [mark_eq h]
        exact nb_ring _ _
      obtain ⟨g1, g2⟩ := ih (numS T st) (mNx s) hc
      rw [e] at g1 g2
      exact ⟨hn.tr g1, g2⟩
    · rw [if_neg q, if_neg q]
      exact ⟨⟨h, Fr.rf, Kq.rf⟩, rfl⟩
theorem dg_b {fr : Int32} : ∀ (k : Nat) (s : MS) (v : Int32), k ≤ 5 → 0 ≤ v.toInt → (v.toInt + 1) * (10 ^ k : Nat) ≤ 100000 → 0 ≤ (mNumL fr k s v).2.toInt ∧ (mNumL fr k s v).2.toInt ≤ 99999 := by
  intro k
  induction k with
  | zero => intro s v _ h0 h1; exact ⟨h0, by show v.toInt ≤ 99999; simp at h1; omega⟩
  | succ k ih =>
    intro s v hk h0 h1
    unfold mNumL
    have hp : 1 ≤ (10 ^ k : Nat) := Nat.one_le_pow _ _ (by decide)
    have e10 : (10 ^ (k + 1) : Nat) = 10 ^ k * 10 := Nat.pow_succ ..
    have hb : v.toInt + 1 ≤ 10000 := by
      have : (v.toInt + 1) * 10 ≤ (v.toInt + 1) * ((10 ^ (k + 1) : Nat) : Int) := Int.mul_le_mul_of_nonneg_left (by rw [e10]; omega) (by omega)
      omega
    split
    · rename_i q
      obtain ⟨b1, b2⟩ := isD_b q
      have t10 : (10 : Int32).toInt = 10 := by decide
      have t48 : (48 : Int32).toInt = 48 := by decide
      have m1 : (10 * v).toInt = 10 * v.toInt := by rw [Int32.toInt_mul, t10, Int.bmod_eq_of_le (by omega) (by omega)]
      have m2 : (10 * v + mSee s).toInt = 10 * v.toInt + (mSee s).toInt := by rw [Int32.toInt_add, m1, Int.bmod_eq_of_le (by omega) (by omega)]
      have m3 : (10 * v + mSee s - 48).toInt = 10 * v.toInt + (mSee s).toInt - 48 := by rw [Int32.toInt_sub, m2, t48, Int.bmod_eq_of_le (by omega) (by omega)]
      refine ih _ _ (by omega) (by omega) ?_
      rw [m3]
      refine Int.le_trans ?_ h1
      have e : (v.toInt + 1) * ((10 ^ (k + 1) : Nat) : Int) = (10 * v.toInt + 10) * ((10 ^ k : Nat) : Int) := by
        rw [e10, Int.natCast_mul, Int.mul_comm ((10 ^ k : Nat) : Int), ← Int.mul_assoc, Int.add_mul]
        have : v.toInt * ((10 : Nat) : Int) + 1 * ((10 : Nat) : Int) = 10 * v.toInt + 10 := by omega
        rw [this]
      rw [e]
      exact Int.mul_le_mul_of_nonneg_right (by omega) (by omega)
    · refine ⟨h0, ?_⟩
      show v.toInt ≤ 99999
      omega
theorem ok_num {T : TX} {st : RS} {s : MS} {m : Int32} (h : Co T st s) : Ok (fun st' s' => Nx T st s st' s' ∧ (mNum s m).1 = rNb st' ∧ 0 ≤ (rNb st').toInt ∧ (rNb st').toInt ≤ 99999) (fNum T st m) (mNum s m).2 := by
  have h0 : Co T (sNb st 0) s := h
  obtain ⟨⟨g1, g2, g3⟩, g4⟩ := dg_eq (fr := gR s 3) 5 (sNb st 0) s h0
  have gb := dg_b (fr := gR s 3) 5 s 0 (by omega) (by decide) (by decide)
  unfold fNum mNum
  rw [if_pos h.2.1]
  have e0 : rNb (sNb st 0) = 0 := rfl
  rw [e0] at g1 g3 g4
  generalize fNumL T 5 (sNb st 0) = q at g1 g2 g4
  generalize mNumL (gR s 3) 5 s 0 = r at g1 g3 g4 gb
  unfold fNumE mNumE
  rw [h.1]
  by_cases c1 : rPl q = gR s 3
  · rw [if_pos c1]
    have c2 : gR r.1 3 = gR s 3 := by rw [← g1.1]; exact c1
    have eA : mNumA r.1 (gR s 3) = mWr r.1 (gR r.1 3) := by unfold mNumA; rw [if_pos c2]
    have hw := bad_wr (p := gR r.1 3) g1.2.1
    have eB : mNumB (mWr r.1 (gR r.1 3)) r.2 (gR s 3) m = mWr r.1 (gR r.1 3) := by
      unfold mNumB
      split
      · rfl
      · unfold mWr at hw ⊢
        rw [if_pos g1.2.1] at hw ⊢
        rw [if_neg (b1n hw.1)]
    rw [eA, eB]
    unfold mNumC
    rw [if_neg (b1n hw.1)]
    exact Or.inr ⟨rfl, hw.1, hw.2.trans g1.1.symm⟩
  · rw [if_neg c1]
    have c2 : ¬ gR r.1 3 = gR s 3 := by rw [← g1.1]; exact c1
    have eA : mNumA r.1 (gR s 3) = r.1 := by unfold mNumA; rw [if_neg c2]
    rw [eA]
    by_cases c3 : rNb q ≤ m
    · rw [if_pos c3]
      have eB : mNumB r.1 r.2 (gR s 3) m = r.1 := by unfold mNumB; rw [← g4, if_pos c3]
      rw [eB]
      unfold mNumC
      rw [if_pos g1.2.1]
      exact Or.inl ⟨rfl, ⟨g1, g2, g3⟩, g4.symm, by rw [g4]; exact gb⟩
    · rw [if_neg c3]
      have eB : mNumB r.1 r.2 (gR s 3) m = mWr r.1 (gR s 3) := by unfold mNumB; rw [← g4, if_neg c3]
      rw [eB]
      have hw := bad_wr (p := gR s 3) g1.2.1
      unfold mNumC
      rw [if_neg (b1n hw.1)]
      exact Or.inr ⟨rfl, hw.1, hw.2⟩
/-! letters -/
theorem lt_eq {T : TX} : ∀ (n k : Nat) (st : RS) (s : MS), Co T st s → n ≤ k → (Co T (fLetL T n st) (mLetL k s) ∧ (gR (mLetL k s) 3).toInt < (gR s 3).toInt + n ∧ (gR s 3).toInt ≤ (gR (mLetL k s) 3).toInt ∧ Fr st (fLetL T n st) ∧ rWs (fLetL T n st) = rWs st) ∨ ((rPl (fLetL T n st)).toInt = (gR s 3).toInt + n ∧ (gR s 3).toInt + n ≤ (gR (mLetL k s) 3).toInt ∧ rWs (fLetL T n st) = rWs st) := by
  intro n
  induction n with
  | zero =>
    intro k st s h _
    refine Or.inr ⟨by show (rPl st).toInt = _; rw [h.1]; simp, ?_, rfl⟩
    have := (ad_letL k s h.2.2.1).2
    omega
  | succ n ih =>
    intro k st s h hk
    obtain ⟨k', rfl⟩ : ∃ k', k = k' + 1 := ⟨k - 1, by omega⟩
    unfold fLetL mLetL
    rw [mark_eq h]
    by_cases q : isL (mSee s) = true
    · rw [if_pos q, if_pos q]
      have hs := see_lt rfl (isL_ne q)
      have hc := co_nx h hs
      have e : (gR (mNx s) 3).toInt = (gR s 3).toInt + 1 := by
        rw [i_le] at hs
        obtain ⟨a1, a2, a3, -⟩ := h.2.2.1
        show (gR s 3 + 1).toInt = _
        rw [Int32.toInt_add, i1, Int.bmod_eq_of_le (by omega) (by omega)]
      rcases ih k' (nxt st) (mNx s) hc (by omega) with ⟨g1, g2, g3, g4, g5⟩ | ⟨g1, g2, g3⟩
      · refine Or.inl ⟨g1, by omega, by omega, ?_, g5⟩
        exact Fr.tr ⟨rfl, rfl, rfl, rfl, rfl, rfl⟩ g4
      · exact Or.inr ⟨by omega, by omega, g3⟩
    · rw [if_neg q, if_neg q]
      exact Or.inl ⟨h, by omega, Int.le_refl _, Fr.rf, rfl⟩
theorem sub_i {s t : MS} (h1 : mInv s) (h2 : mInv t) : (gR t 3 - gR s 3).toInt = (gR t 3).toInt - (gR s 3).toInt := by
  obtain ⟨a1, a2, a3, -⟩ := h1
  obtain ⟨b1, b2, b3, -⟩ := h2
  rw [Int32.toInt_sub, Int.bmod_eq_of_le (by omega) (by omega)]
theorem ok_let {T : TX} {st : RS} {s : MS} {n : Nat} (h : Co T st s) (hn : n ≤ 100) :
    (gR (mLetL 300 s) 3 = gR s 3 ∧ (fLet T st n).1 = false ∧ rSk (fLet T st n).2 = gR s 3) ∨
    (¬ gR (mLetL 300 s) 3 = gR s 3 ∧ gR (mLetL 300 s) 3 - gR s 3 ≤ nI n ∧ (fLet T st n).1 = true ∧ Nx T st s (fLet T st n).2 (mLetL 300 s) ∧ rWs (fLet T st n).2 = gR s 3 ∧ rWe (fLet T st n).2 = gR (mLetL 300 s) 3) ∨
    (¬ gR (mLetL 300 s) 3 = gR s 3 ∧ ¬ gR (mLetL 300 s) 3 - gR s 3 ≤ nI n ∧ (fLet T st n).1 = false ∧ rSk (fLet T st n).2 = gR s 3) := by
  have h0 : Co T (sWs st (rPl st)) s := h
  have hv1 := inv_letL 300 s h.2.2.1
  have ek : Kq L3 s (mLetL 300 s) := kq_letL 300 s
  have es := sub_i h.2.2.1 hv1
  have eW : rWs (sWs st (rPl st)) = gR s 3 := h.1
  have hfr : Fr st (sWs st (rPl st)) := ⟨rfl, rfl, rfl, rfl, rfl, rfl⟩
  have g := lt_eq (n + 1) 300 (sWs st (rPl st)) s h0 (by omega)
  unfold fLet
  generalize fLetL T (n + 1) (sWs st (rPl st)) = q at g
  generalize mLetL 300 s = s1 at g hv1 ek es
  obtain ⟨a1, a2, a3, -⟩ := id h.2.2.1
  obtain ⟨b1, b2, b3, -⟩ := id hv1
  unfold fLetE
  rcases g with ⟨g1, g2, g3, g4, g5⟩ | ⟨g1, g2, g3⟩
  · have eP : rPl q = gR s1 3 := g1.1
    rw [g5, eW, eP]
    by_cases c1 : gR s1 3 = gR s 3
    · rw [if_pos c1]
      exact Or.inl ⟨c1, rfl, c1⟩
    · rw [if_neg c1]
      have c2 : gR s1 3 - gR s 3 ≤ nI n := by
        rw [i_le, es, nI_toInt (by omega)]
        omega
      rw [if_pos c2]
      refine Or.inr (Or.inl ⟨c1, c2, rfl, ⟨g1, ?_, ek⟩, g5.trans eW, rfl⟩)
      exact hfr.tr (g4.tr ⟨rfl, rfl, rfl, rfl, rfl, rfl⟩)
  · rw [g3, eW]
    have c1 : ¬ rPl q = gR s 3 := by rw [← Int32.toInt_inj]; omega
    have c1' : ¬ gR s1 3 = gR s 3 := by rw [← Int32.toInt_inj]; omega
    have c2 : ¬ rPl q - gR s 3 ≤ nI n := by
      rw [i_le, Int32.toInt_sub, g1, nI_toInt (by omega), Int.bmod_eq_of_le (by omega) (by omega)]
      omega
    have c2' : ¬ gR s1 3 - gR s 3 ≤ nI n := by
      rw [i_le, es, nI_toInt (by omega)]
      omega
    rw [if_neg c1, if_neg c2]
    exact Or.inr (Or.inr ⟨c1', c2', rfl, rfl⟩)
