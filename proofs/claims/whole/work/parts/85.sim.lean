/-! VALUES, alike -/
def hs (g : Nat → Int32) (x : Int32) : Nat → Nat → Bool
  | 0, _ => false
  | r + 1, i => if g i = x then true else hs g x r (i + 1)
/-- one more, if it isn't there -/
def ddA (q : Nat × (Nat → Int32)) (x : Int32) : Nat × (Nat → Int32) := if hs q.2 x q.1 0 = true then q else (q.1 + 1, upd q.2 q.1 x)
def dd (r0 mt : Nat → Int32) : Nat → Nat × (Nat → Int32)
  | 0 => (0, r0)
  | m + 1 => ddA (dd r0 mt m) (mt m)
theorem dd_le (r0 mt : Nat → Int32) : ∀ m : Nat, (dd r0 mt m).1 ≤ m := by
  intro m
  induction m with
  | zero => exact Nat.le_refl _
  | succ m ih =>
    show (ddA (dd r0 mt m) (mt m)).1 ≤ m + 1
    unfold ddA
    split
    · omega
    · show (dd r0 mt m).1 + 1 ≤ m + 1
      omega
theorem dd_upd (r0 mt : Nat → Int32) (n : Nat) (x : Int32) : ∀ m : Nat, m ≤ n → dd r0 (upd mt n x) m = dd r0 mt m := by
  intro m
  induction m with
  | zero => intro _; rfl
  | succ m ih =>
    intro h
    show ddA (dd r0 (upd mt n x) m) (upd mt n x m) = ddA (dd r0 mt m) (mt m)
    rw [ih (by omega), pk_un (show m ≠ n by omega)]
theorem has_eq {v r : Nat → Int32} {x : Int32} {n : Nat} (hn : n ≤ 8) (hv : v 7 = nI n) : ∀ (k q i : Nat), i + q = n → q ≤ k → hasL v r x k i = hs r x q i := by
  intro k
  induction k with
  | zero =>
    intro q i _ hq
    obtain rfl : q = 0 := by omega
    rfl
  | succ k ih =>
    intro q i hi hq
    unfold hasL
    rw [hv]
    cases q with
    | zero => rw [if_pos (nI_le (by omega) (by omega))]; rfl
    | succ q =>
      rw [if_neg (nI_ge (by omega) (by omega)), ih q (i + 1) (by omega) (by omega)]
      rfl
theorem hadd_eq {v r : Nat → Int32} {x : Int32} {n : Nat} (hn : n < 8) (hv : v 7 = nI n) : hAdd v r x = (upd v 7 (nI (ddA (n, r) x).1), (ddA (n, r) x).2) := by
  unfold hAdd ddA
  rw [show hHas v r x = hs r x n 0 from has_eq (by omega) hv 8 n 0 (by omega) (by omega)]
  by_cases q : hs r x n 0 = true
  · rw [if_pos q, if_pos q]
    have e : upd v 7 (nI n) = v := by
      funext k
      by_cases z : k = 7
      · rw [z, pk_us, hv]
      · rw [pk_un z]
    rw [e]
  · rw [if_neg q, if_neg q, hv, if_neg (nI_pos (by omega)), if_neg (show ¬ (8 : Int32) ≤ nI n from nI_gno (N := 8) rfl hn (by omega)), nI_clamp (by omega), ← nI_succ]
def Dd (v r : Nat → Int32) (s : MS) : Prop := ∃ (m : Nat) (r0 : Nat → Int32), m ≤ 8 ∧ gR s 11 = nI m ∧ v 7 = nI (dd r0 (gMt s) m).1 ∧ r = (dd r0 (gMt s) m).2
def Rg (s : MS) : Prop := (gR s 8 = 0 ∨ gR s 8 = 1 ∨ gR s 8 = 2 ∨ gR s 8 = 3) ∧ (gR s 8 ≠ 0 → 0 ≤ (gR s 9).toInt ∧ (gR s 9).toInt ≤ 99999) ∧ (gR s 8 = 1 → 0 ≤ (gR s 10).toInt ∧ (gR s 10).toInt ≤ 99999)
/-- what the class has told so far is what the reference would keep -/
def Vl (x : Int32) (v r : Nat → Int32) (s : MS) : Prop :=
  v 0 = kv0 s x ∧ v 1 = gR s 6 ∧ v 2 = gR s 7 ∧ v 3 = gR s 8 ∧ v 4 = kv4 s ∧ v 5 = kv5 s ∧ v 6 = kv6 s ∧ v 8 = gR s 19 ∧ v 9 = gR s 20 ∧ v 10 = kv10 s ∧ v 11 = kv11 s ∧ v 12 = kv12 s x ∧ v 13 = gR s 13 ∧ v 14 = gR s 14 ∧ v 15 = kv15 s ∧ v 16 = gR s 22 ∧ v 17 = gR s 23 ∧ Dd v r s ∧ Rg s
abbrev LK : List Nat := [0, 1, 2, 3, 4, 5, 26, 27, 28, 29, 30, 31]
theorem vl_kz {x : Int32} {v r : Nat → Int32} {s t : MS} (h : Kz LK s t) (g : Vl x v r s) : Vl x v r t := by
  obtain ⟨hm, -, -, hk⟩ := h
  unfold Vl kv0 kv4 kv5 kv6 kv10 kv11 kv12 kv15 Dd Rg
  rw [hk 6 (by decide), hk 7 (by decide), hk 8 (by decide), hk 9 (by decide), hk 10 (by decide), hk 11 (by decide), hk 12 (by decide), hk 13 (by decide), hk 14 (by decide), hk 15 (by decide), hk 16 (by decide), hk 17 (by decide), hk 18 (by decide), hk 19 (by decide), hk 20 (by decide), hk 21 (by decide), hk 22 (by decide), hk 23 (by decide), hk 24 (by decide), hk 25 (by decide), hm]
  exact g
section VLS
variable {x : Int32} {v r : Nat → Int32} {s : MS} {y : Int32}
theorem vl_19 (h : Vl x v r s) : Vl x (upd v 8 y) r (wR s 19 y) := by
  obtain ⟨v0, v1, v2, v3, v4, v5, v6, v8, v9, v10, v11, v12, v13, v14, v15, v16, v17, d, g⟩ := h
  exact ⟨v0, v1, v2, v3, v4, v5, v6, rfl, v9, v10, v11, v12, v13, v14, v15, v16, v17, d, g⟩
theorem vl_20 {z : Int32} (h : Vl x v r s) : Vl x (upd v 9 (v 9 ||| z)) r (wR s 20 (gR s 20 ||| z)) := by
  obtain ⟨v0, v1, v2, v3, v4, v5, v6, v8, v9, v10, v11, v12, v13, v14, v15, v16, v17, d, g⟩ := h
  exact ⟨v0, v1, v2, v3, v4, v5, v6, v8, by show v 9 ||| z = gR s 20 ||| z; rw [v9], v10, v11, v12, v13, v14, v15, v16, v17, d, g⟩
theorem vl_16 (h : Vl x v r s) : Vl x (upd v 6 1) r (wR s 16 1) := by
  obtain ⟨v0, v1, v2, v3, v4, v5, v6, v8, v9, v10, v11, v12, v13, v14, v15, v16, v17, d, g⟩ := h
  exact ⟨v0, v1, v2, v3, v4, v5, rfl, v8, v9, v10, v11, v12, v13, v14, v15, v16, v17, d, g⟩
theorem vl_17 (h : Vl x v r s) : Vl x (upd v 10 1) r (wR s 17 1) := by
  obtain ⟨v0, v1, v2, v3, v4, v5, v6, v8, v9, v10, v11, v12, v13, v14, v15, v16, v17, d, g⟩ := h
  exact ⟨v0, v1, v2, v3, v4, v5, v6, v8, v9, rfl, v11, v12, v13, v14, v15, v16, v17, d, g⟩
theorem vl_25 (h : Vl x v r s) : Vl x (upd v 10 1) r (wR s 25 1) := by
  obtain ⟨v0, v1, v2, v3, v4, v5, v6, v8, v9, v10, v11, v12, v13, v14, v15, v16, v17, d, g⟩ := h
  refine ⟨v0, v1, v2, v3, v4, v5, v6, v8, v9, ?_, v11, v12, v13, v14, v15, v16, v17, d, g⟩
  show (1 : Int32) = if gR s 17 = 0 then (if (1 : Int32) = 0 then 0 else 1) else 1
  split <;> rfl
theorem vl_18 (h : Vl x v r s) : Vl x (upd v 11 1) r (wR s 18 1) := by
  obtain ⟨v0, v1, v2, v3, v4, v5, v6, v8, v9, v10, v11, v12, v13, v14, v15, v16, v17, d, g⟩ := h
  exact ⟨v0, v1, v2, v3, v4, v5, v6, v8, v9, v10, rfl, v12, v13, v14, v15, v16, v17, d, g⟩
theorem vl_12 (hx : ¬ x = 0) (h : Vl x v r s) : Vl x (upd v 12 y) r (wR s 12 y) := by
  obtain ⟨v0, v1, v2, v3, v4, v5, v6, v8, v9, v10, v11, v12, v13, v14, v15, v16, v17, d, g⟩ := h
  refine ⟨v0, v1, v2, v3, v4, v5, v6, v8, v9, v10, v11, ?_, v13, v14, v15, v16, v17, d, g⟩
  unfold kv12
  rw [if_neg hx]
  rfl
theorem vl_21 (hx : x = 0) (h : Vl x v r s) : Vl x (upd v 12 y) r (wR s 21 y) := by
  obtain ⟨v0, v1, v2, v3, v4, v5, v6, v8, v9, v10, v11, v12, v13, v14, v15, v16, v17, d, g⟩ := h
  refine ⟨v0, v1, v2, v3, v4, v5, v6, v8, v9, v10, v11, ?_, v13, v14, v15, v16, v17, d, g⟩
  unfold kv12
  rw [if_pos hx]
  rfl
theorem vl_13 (h : Vl x v r s) : Vl x (upd v 13 y) r (wR s 13 y) := by
  obtain ⟨v0, v1, v2, v3, v4, v5, v6, v8, v9, v10, v11, v12, v13, v14, v15, v16, v17, d, g⟩ := h
  exact ⟨v0, v1, v2, v3, v4, v5, v6, v8, v9, v10, v11, v12, rfl, v14, v15, v16, v17, d, g⟩
theorem vl_14 (h : Vl x v r s) : Vl x (upd v 14 y) r (wR s 14 y) := by
  obtain ⟨v0, v1, v2, v3, v4, v5, v6, v8, v9, v10, v11, v12, v13, v14, v15, v16, v17, d, g⟩ := h
  exact ⟨v0, v1, v2, v3, v4, v5, v6, v8, v9, v10, v11, v12, v13, rfl, v15, v16, v17, d, g⟩
theorem vl_24 (h : Vl x v r s) : Vl x (upd v 15 1) r (wR s 24 1) := by
  obtain ⟨v0, v1, v2, v3, v4, v5, v6, v8, v9, v10, v11, v12, v13, v14, v15, v16, v17, d, g⟩ := h
  exact ⟨v0, v1, v2, v3, v4, v5, v6, v8, v9, v10, v11, v12, v13, v14, rfl, v16, v17, d, g⟩
theorem vl_22 (h : Vl x v r s) : Vl x (upd v 16 y) r (wR s 22 y) := by
  obtain ⟨v0, v1, v2, v3, v4, v5, v6, v8, v9, v10, v11, v12, v13, v14, v15, v16, v17, d, g⟩ := h
  exact ⟨v0, v1, v2, v3, v4, v5, v6, v8, v9, v10, v11, v12, v13, v14, v15, rfl, v17, d, g⟩
theorem vl_23 (h : Vl x v r s) : Vl x (upd v 17 y) r (wR s 23 y) := by
  obtain ⟨v0, v1, v2, v3, v4, v5, v6, v8, v9, v10, v11, v12, v13, v14, v15, v16, v17, d, g⟩ := h
  exact ⟨v0, v1, v2, v3, v4, v5, v6, v8, v9, v10, v11, v12, v13, v14, v15, v16, rfl, d, g⟩
/-- the last ones of a range, from one on, from one to one -/
theorem vl_r3 (hb : 0 ≤ y.toInt ∧ y.toInt ≤ 99999) (h : Vl x v r s) : Vl x (hRng v 3 y (-1)) r (wR (wR s 8 3) 9 y) := by
  obtain ⟨v0, v1, v2, v3, v4, v5, v6, v8, v9, v10, v11, v12, v13, v14, v15, v16, v17, d, g⟩ := h
  exact ⟨v0, v1, v2, rfl, rfl, rfl, v6, v8, v9, v10, v11, v12, v13, v14, v15, v16, v17, d, Or.inr (Or.inr (Or.inr rfl)), fun _ => hb, fun q => absurd q (by decide : ¬ (3 : Int32) = 1)⟩
theorem vl_r2 (hb : 0 ≤ y.toInt ∧ y.toInt ≤ 99999) (e : gR s 9 = y) (h : Vl x v r (wR s 8 0)) : Vl x (hRng v 2 y (-1)) r (wR s 8 2) := by
  obtain ⟨v0, v1, v2, v3, v4, v5, v6, v8, v9, v10, v11, v12, v13, v14, v15, v16, v17, d, g⟩ := h
  exact ⟨v0, v1, v2, rfl, e.symm, rfl, v6, v8, v9, v10, v11, v12, v13, v14, v15, v16, v17, d, Or.inr (Or.inr (Or.inl rfl)), fun _ => by show 0 ≤ (gR s 9).toInt ∧ (gR s 9).toInt ≤ 99999; rw [e]; exact hb, fun q => absurd q (by decide : ¬ (2 : Int32) = 1)⟩
theorem vl_r1 {z : Int32} (hb : 0 ≤ y.toInt ∧ y.toInt ≤ 99999) (hz : 0 ≤ z.toInt ∧ z.toInt ≤ 99999) (e : gR s 9 = y) (e2 : gR s 10 = z) (h : Vl x v r (wR s 8 0)) : Vl x (hRng v 1 y z) r (wR s 8 1) := by
  obtain ⟨v0, v1, v2, v3, v4, v5, v6, v8, v9, v10, v11, v12, v13, v14, v15, v16, v17, d, g⟩ := h
  exact ⟨v0, v1, v2, rfl, e.symm, e2.symm, v6, v8, v9, v10, v11, v12, v13, v14, v15, v16, v17, d, Or.inr (Or.inl rfl), fun _ => by show 0 ≤ (gR s 9).toInt ∧ (gR s 9).toInt ≤ 99999; rw [e]; exact hb, fun _ => by show 0 ≤ (gR s 10).toInt ∧ (gR s 10).toInt ≤ 99999; rw [e2]; exact hz⟩
/-- with no range yet, its numbers don't count -/
theorem vl_r0 {k : Nat} (hk : k = 9 ∨ k = 10) (h0 : gR s 8 = 0) (h : Vl x v r s) : Vl x v r (wR s k y) := by
  obtain ⟨v0, v1, v2, v3, v4, v5, v6, v8, v9, v10, v11, v12, v13, v14, v15, v16, v17, d, g⟩ := h
  have e4 : kv4 s = -1 := by unfold kv4; rw [if_pos h0]
  have e5 : kv5 s = -1 := by unfold kv5; rw [if_neg (by rw [h0]; decide)]
  rcases hk with rfl | rfl
  · refine ⟨v0, v1, v2, v3, ?_, v5, v6, v8, v9, v10, v11, v12, v13, v14, v15, v16, v17, d, g.1, fun q => absurd h0 q, g.2.2⟩
    show v 4 = if gR s 8 = 0 then -1 else y
    rw [if_pos h0, v4, e4]
  · refine ⟨v0, v1, v2, v3, v4, ?_, v6, v8, v9, v10, v11, v12, v13, v14, v15, v16, v17, d, g.1, g.2.1, fun q => absurd (h0.symm.trans q) (by decide)⟩
    show v 5 = if gR s 8 = 1 then y else -1
    rw [if_neg (by rw [h0]; decide), v5, e5]
theorem vl_r8 (h0 : gR s 8 = 0) (h : Vl x v r s) : Vl x v r (wR s 8 0) := by
  have e : wR s 8 0 = s := by
    show (upd s.1 8 0, s.2) = s
    have : upd s.1 8 0 = s.1 := by
      funext k
      by_cases z : k = 8
      · rw [z, pk_us]; exact h0.symm
      · rw [pk_un z]
    rw [this]
  rw [e]; exact h
/-- one more version -/
theorem vl_mt {m : Nat} (hm : m < 8) (e : gR s 11 = nI m) (h : Vl x v r s) : Vl x (hAdd v r y).1 (hAdd v r y).2 (mMtP s y) := by
  obtain ⟨v0, v1, v2, v3, v4, v5, v6, v8, v9, v10, v11, v12, v13, v14, v15, v16, v17, ⟨m', r0, d1, d2, d3, d4⟩, g⟩ := h
  obtain rfl : m' = m := (nI_eq (by omega) (by omega)).mp (d2.symm.trans e)
  have hl := dd_le r0 (gMt s) m'
  have hq := hadd_eq (v := v) (r := r) (x := y) (n := (dd r0 (gMt s) m').1) (by omega) d3
  rw [d4] at hq ⊢
  rw [hq]
  have hd : ddA (dd r0 (gMt s) m') y = dd r0 (gMt (mMtP s y)) (m' + 1) := by
    show _ = ddA (dd r0 (upd (gMt s) (gR s 11).toNatClampNeg y) m') (upd (gMt s) (gR s 11).toNatClampNeg y m')
    rw [e, nI_clamp (by omega), dd_upd _ _ _ _ _ (Nat.le_refl _), pk_us]
  refine ⟨v0, v1, v2, v3, v4, v5, v6, v8, v9, v10, v11, v12, v13, v14, v15, v16, v17, ⟨m' + 1, r0, by omega, mt_nx e, ?_, ?_⟩, g⟩
  · show nI (ddA (dd r0 (gMt s) m') y).1 = _
    rw [hd]
  · show (ddA (dd r0 (gMt s) m') y).2 = _
    rw [hd]
end VLS
def Kd (x : Int32) (st : RS) : Prop := (x = 0 ∧ rKd st = 1) ∨ (¬ x = 0 ∧ rKd st = 0)
/-- the two, in a VALUE -/
def Sm (T : TX) (x : Int32) (st : RS) (s : MS) : Prop := Co T st s ∧ Nr st s ∧ Kd x st ∧ Vl x (rVs st) (rVr st) s
theorem nr_nx {T : TX} {st st' : RS} {s s' : MS} (h : Nr st s) (g : Nx T st s st' s') : Nr st' s' := by
  obtain ⟨f1, f2, f3, f4, f5, f6⟩ := g.2.1
  have ek := g.2.2
  have g1 : gNf s' = gNf s := by unfold gNf; rw [ek.1]
  have g2 : gNt s' = gNt s := by unfold gNt; rw [ek.1]
  unfold Nr
  rw [f1, f3, f4, g1, g2, ek.2 26 (by decide)]
  exact h
theorem kd_fr {x : Int32} {st st' : RS} (h : Kd x st) (g : Fr st st') : Kd x st' := by
  unfold Kd
  rw [g.2.1]
  exact h
theorem sm_nx {T : TX} {x : Int32} {st st' : RS} {s s' : MS} (h : Sm T x st s) (g : Nx T st s st' s') : Sm T x st' s' := by
  refine ⟨g.1, nr_nx h.2.1 g, kd_fr h.2.2.1 g.2.1, ?_⟩
  obtain ⟨f1, f2, f3, f4, f5, f6⟩ := g.2.1
  rw [f5, f6]
  exact vl_kz ((g.2.2.kz).mono (by decide)) h.2.2.2
theorem any_eq {T : TX} : ∀ (k : Nat) (st : RS) (s : MS), Co T st s → Nx T st s (fAnyL T k st) (mAnyL k s) := by
  intro k
  induction k with
  | zero => intro st s h; exact ⟨h, Fr.rf, Kq.rf⟩
  | succ k ih =>
    intro st s h
    unfold fAnyL mAnyL
    rw [mark_eq h]
    by_cases q1 : mSee s = 10
    · rw [if_pos q1, if_neg (by rw [q1]; decide), if_pos q1]
      exact ⟨h, Fr.rf, Kq.rf⟩
    · rw [if_neg q1, if_neg q1]
      by_cases q2 : gR s 1 ≤ gR s 3
      · rw [if_pos q2, if_pos (by unfold mSee; rw [if_pos q2])]
        exact ⟨h, Fr.rf, Kq.rf⟩
      · rw [if_neg q2, if_neg (fun z => q2 (see_end h.2.2.2.1 h.2.2.1 z))]
        exact (nx_nx h q2).tr (ih _ _ (co_nx h q2))
theorem hset8 (v : Nat → Int32) (y : Int32) : hSet v 8 y = upd v 8 y := by unfold hSet; rw [if_neg (by decide), if_neg (by decide)]; rfl
theorem fne {α : Type} (a : α) : ¬ (false, a).1 = true := Bool.false_ne_true
theorem ok_len {T : TX} {x : Int32} {st : RS} {s : MS} (h : Sm T x st s) : Ok (Sm T x) (fLen T st) (wR (mNum s 255).2 19 (mNum s 255).1) := by
  unfold fLen
  rcases ok_num (m := 255) h.1 with ⟨h1, h2, h3, -⟩ | ⟨h1, h2⟩
  · rw [bnd_t h1, h3]
    have g := sm_nx h h2
    generalize (mNum s 255).2 = s2 at g
    generalize (fNum T st 255).2 = st2 at g
    refine Or.inl ⟨rfl, g.1, g.2.1, g.2.2.1, ?_⟩
    show Vl x (hSet (rVs st2) 8 (rNb st2)) (rVr st2) _
    rw [hset8]
    exact vl_19 g.2.2.2
  · rw [bnd_f h1]
    generalize (mNum s 255).2 = s2 at h2
    exact Or.inr ⟨rfl, h2⟩
theorem ok_key {T : TX} {x : Int32} : ∀ (k : Nat) (st : RS) (s : MS), Sm T x st s → Ok (Sm T x) (fKeyL T (k + 1) st) (mKeyL (k + 1) s) := by
  intro k
  induction k with
  | zero =>
    intro st s h
    unfold fKeyL mKeyL
    rw [mark_eq h.1, if_pos h.1.2.1]
    by_cases q1 : mSee s < 97
    · rw [if_pos q1, if_pos q1]; exact Or.inr ⟨rfl, bad_here h.1⟩
    · rw [if_neg q1, if_neg q1]
      by_cases q2 : mSee s ≤ 104
      · rw [if_pos q2, if_pos q2, if_pos rfl, if_pos rfl]
        have hs := see_lt rfl (ge97 q1)
        have g : Sm T x (keyS T st) (mNx (wR s 20 (gR s 20 ||| ((1 : Int32) <<< ((mSee s - 97) &&& 31))))) := by
          refine ⟨co_nx (st := sVs st (hKey (rVs st) (fMark T st))) (s := wR s 20 (gR s 20 ||| ((1 : Int32) <<< ((mSee s - 97) &&& 31)))) h.1 hs, h.2.1, h.2.2.1, ?_⟩
          show Vl x (hKey (rVs st) (fMark T st)) (rVr st) _
          rw [mark_eq h.1]
          exact vl_kz (s := wR s 20 (gR s 20 ||| ((1 : Int32) <<< ((mSee s - 97) &&& 31)))) ((kq_nx.kz).mono (by decide)) (vl_20 h.2.2.2)
        split
        · exact Or.inl ⟨rfl, g⟩
        · exact Or.inl ⟨rfl, g⟩
      · rw [if_neg q2, if_neg q2]; exact Or.inr ⟨rfl, bad_here h.1⟩
  | succ k ih =>
    intro st s h
    rw [fKeyL, mKeyL]
    rw [mark_eq h.1, if_pos h.1.2.1]
    by_cases q1 : mSee s < 97
    · rw [if_pos q1, if_pos q1]; exact Or.inr ⟨rfl, bad_here h.1⟩
    · rw [if_neg q1, if_neg q1]
      by_cases q2 : mSee s ≤ 104
      · have e0 : ¬ k + 1 = 0 := by omega
        rw [if_pos q2, if_pos q2, if_neg e0, if_neg e0]
        have hs := see_lt rfl (ge97 q1)
        have g : Sm T x (keyS T st) (mNx (wR s 20 (gR s 20 ||| ((1 : Int32) <<< ((mSee s - 97) &&& 31))))) := by
          refine ⟨co_nx (st := sVs st (hKey (rVs st) (fMark T st))) (s := wR s 20 (gR s 20 ||| ((1 : Int32) <<< ((mSee s - 97) &&& 31)))) h.1 hs, h.2.1, h.2.2.1, ?_⟩
          show Vl x (hKey (rVs st) (fMark T st)) (rVr st) _
          rw [mark_eq h.1]
          exact vl_kz (s := wR s 20 (gR s 20 ||| ((1 : Int32) <<< ((mSee s - 97) &&& 31)))) ((kq_nx.kz).mono (by decide)) (vl_20 h.2.2.2)
        generalize mNx (wR s 20 (gR s 20 ||| ((1 : Int32) <<< ((mSee s - 97) &&& 31)))) = s1 at g
        generalize keyS T st = st1 at g
        by_cases q3 : mSee s1 = 32
        · rw [skip_t g.1 q3, if_pos rfl, if_pos q3]
          exact ih _ _ (sm_nx g (nx_nx g.1 (see_lt q3 (by decide))))
        · rw [skip_f g.1 q3, if_neg (fne _), if_neg q3]
          exact Or.inl ⟨rfl, g⟩
      · rw [if_neg q2, if_neg q2]; exact Or.inr ⟨rfl, bad_here h.1⟩
theorem ok_rng {T : TX} {x : Int32} {st : RS} {s : MS} (h : Sm T x st s) (h8 : gR s 8 = 0) : Ok (Sm T x) (fRng T st t_bytes) (mRng s) := by
  unfold fRng mRng
  rcases ok_all t_bytes st s (by decide) h.1 with ⟨h1, h2⟩ | ⟨h1, h2⟩
  · rw [bnd_t h1]
    have g := sm_nx h h2
    have g8 : gR (mWord t_bytes s).2 8 = 0 := by rw [(kq_word t_bytes s).2 8 (by decide)]; exact h8
    generalize (mWord t_bytes s).2 = s1 at g g8
    generalize (fAll T t_bytes st).2 = st1 at g
    unfold mRngG
    rw [if_pos g.1.2.1]
    by_cases q : mSee s1 = 45
    · have hs := see_lt q (by decide)
      rw [skip_t g.1 q, if_pos q]
      have g2 : Sm T x (nxt st1) (mNx s1) := sm_nx g (nx_nx g.1 hs)
      have g3 : Co T (nxt st1) (wR (mNx s1) 8 3) := g2.1
      unfold mRngA
      rcases ok_num (m := 99999) g3 with ⟨k1, k2, k3, k4, k5⟩ | ⟨k1, k2⟩
      · rw [bnd_t k1, if_pos rfl]
        refine Or.inl ⟨rfl, ?_⟩
        rw [k3]
        generalize (fNum T (nxt st1) 99999).2 = st2 at k2 k4 k5
        have e8 : gR (mNum (wR (mNx s1) 8 3) 99999).2 8 = 3 := by rw [kq_num.2 8 (by decide)]; rfl
        have ek : Kz LK (wR (mNx s1) 8 3) (mNum (wR (mNx s1) 8 3) 99999).2 := (kq_num.kz).mono (by decide)
        have hco : Co T st2 (mNum (wR (mNx s1) 8 3) 99999).2 := k2.1
        have hnr : Nr st2 (mNum (wR (mNx s1) 8 3) 99999).2 := nr_nx (s := wR (mNx s1) 8 3) g2.2.1 k2
        refine ⟨hco, hnr, (show Kd x st2 from kd_fr g2.2.2.1 k2.2.1), ?_⟩
        have e5 : rVs st2 = rVs (nxt st1) := k2.2.1.2.2.2.2.1
        have e6 : rVr st2 = rVr (nxt st1) := k2.2.1.2.2.2.2.2
        show Vl x (hRng (rVs st2) 3 (rNb st2) (-1)) (rVr st2) (wR (mNum (wR (mNx s1) 8 3) 99999).2 9 (rNb st2))
        rw [e5, e6]
        have hV : Vl x (hRng (rVs (nxt st1)) 3 (rNb st2) (-1)) (rVr (nxt st1)) (wR (wR (mNx s1) 8 3) 9 (rNb st2)) := vl_r3 ⟨k4, k5⟩ g2.2.2.2
        refine vl_kz (s := wR (wR (mNx s1) 8 3) 9 (rNb st2)) (t := wR (mNum (wR (mNx s1) 8 3) 99999).2 9 (rNb st2)) ⟨ek.1, ek.2.1, ek.2.2.1, fun k hk => ?_⟩ hV
        show (if k = 9 then rNb st2 else gR (mNum (wR (mNx s1) 8 3) 99999).2 k) = (if k = 9 then rNb st2 else gR (wR (mNx s1) 8 3) k)
        rw [ek.2.2.2 k hk]
      · rw [bnd_f k1]
        exact Or.inr ⟨rfl, k2⟩
    · rw [skip_f g.1 q, if_neg q]
      unfold mRngB
      rcases ok_num (m := 99999) g.1 with ⟨k1, k2, k3, k4, k5⟩ | ⟨k1, k2⟩
      · rw [bnd_t k1, if_neg (fne _), k3]
        have g2 : Sm T x (fNum T st1 99999).2 (mNum s1 99999).2 := sm_nx g k2
        have e8 : gR (mNum s1 99999).2 8 = 0 := by rw [kq_num.2 8 (by decide)]; exact g8
        generalize (fNum T st1 99999).2 = st2 at g2 k4 k5
        generalize (mNum s1 99999).2 = s2 at g2 e8
        have g3 : Sm T x st2 (wR s2 9 (rNb st2)) := ⟨g2.1, g2.2.1, g2.2.2.1, vl_r0 (Or.inl rfl) e8 g2.2.2.2⟩
        have e9 : gR (wR s2 9 (rNb st2)) 9 = rNb st2 := rfl
        have e8' : gR (wR s2 9 (rNb st2)) 8 = 0 := e8
        generalize wR s2 9 (rNb st2) = s3 at g3 e9 e8'
        obtain ⟨fr, efr⟩ : ∃ z : Int32, z = rNb st2 := ⟨_, rfl⟩
        rw [← efr] at e9 k4 k5 ⊢
        unfold fRngE
        rcases ok_take (c := 45) (by decide) g3.1 with ⟨n1, n2⟩ | ⟨n1, n2⟩
        · rw [bnd_t n1]
          have g4 := sm_nx g3 n2
          have f8 : gR (mExp s3 45).2 8 = 0 := by rw [kq_exp.2 8 (by decide)]; exact e8'
          have f9 : gR (mExp s3 45).2 9 = fr := by rw [kq_exp.2 9 (by decide)]; exact e9
          generalize (mExp s3 45).2 = s4 at g4 f8 f9
          generalize (fTake T st2 45).2 = st4 at g4
          unfold mRngC
          rw [if_pos g4.1.2.1, mark_eq g4.1]
          have hV0 : Vl x (rVs st4) (rVr st4) (wR s4 8 0) := vl_r8 f8 g4.2.2.2
          have hV2 : Vl x (hRng (rVs st4) 2 fr (-1)) (rVr st4) (wR s4 8 2) := vl_r2 ⟨k4, k5⟩ f9 hV0
          unfold mRngK
          have es : mSee (wR s4 8 2) = mSee s4 := rfl
          rw [es]
          by_cases q5 : isD (mSee s4) = true
          · rw [if_pos q5, if_pos q5]
            have g5 : Co T st4 (wR s4 8 2) := g4.1
            rcases ok_num (m := 99999) g5 with ⟨p1, p2, p3, p4, p5⟩ | ⟨p1, p2⟩
            · rw [bnd_t p1, p3]
              have ek : Kz LK (wR s4 8 2) (mNum (wR s4 8 2) 99999).2 := (kq_num.kz).mono (by decide)
              have t9 : gR (mNum (wR s4 8 2) 99999).2 9 = fr := by rw [kq_num.2 9 (by decide)]; exact f9
              have hnr : Nr (fNum T st4 99999).2 (mNum (wR s4 8 2) 99999).2 := nr_nx (s := wR s4 8 2) g4.2.1 p2
              have hkd := kd_fr g4.2.2.1 p2.2.1
              have e5 : rVs (fNum T st4 99999).2 = rVs st4 := p2.2.1.2.2.2.2.1
              have e6 : rVr (fNum T st4 99999).2 = rVr st4 := p2.2.1.2.2.2.2.2
              have hco := p2.1
              generalize (fNum T st4 99999).2 = st5 at hnr hkd e5 e6 hco p4 p5
              generalize (mNum (wR s4 8 2) 99999).2 = s5 at ek t9 hnr hco
              have hV5 : Vl x (rVs st4) (rVr st4) (wR s5 8 0) := by
                refine vl_kz (s := wR s4 8 0) (t := wR s5 8 0) ⟨ek.1, ek.2.1, ek.2.2.1, fun k hk => ?_⟩ hV0
                show (if k = 8 then 0 else gR s5 k) = (if k = 8 then 0 else gR s4 k)
                by_cases z : k = 8
                · rw [if_pos z, if_pos z]
                · rw [if_neg z, if_neg z, ek.2.2.2 k hk]
                  show (if k = 8 then 2 else s4.1 k) = _
                  rw [if_neg z]; rfl
              have hV6 : Vl x (rVs st4) (rVr st4) (wR (wR s5 10 (rNb st5)) 8 0) := by
                have := vl_r0 (k := 10) (y := rNb st5) (Or.inr rfl) rfl hV5
                refine vl_kz (s := wR (wR s5 8 0) 10 (rNb st5)) (t := wR (wR s5 10 (rNb st5)) 8 0) ⟨rfl, rfl, rfl, fun k hk => ?_⟩ this
                show (if k = 8 then 0 else if k = 10 then rNb st5 else gR s5 k) = (if k = 10 then rNb st5 else if k = 8 then 0 else gR s5 k)
                by_cases z : k = 8
                · subst z; rfl
                · rw [if_neg z, if_neg z]
              have t9' : gR (wR s5 10 (rNb st5)) 9 = fr := t9
              have t10 : gR (wR s5 10 (rNb st5)) 10 = rNb st5 := rfl
              have hco' : Co T st5 (wR s5 10 (rNb st5)) := hco
              have hnr' : Nr st5 (wR s5 10 (rNb st5)) := hnr
              generalize wR s5 10 (rNb st5) = s6 at hV6 t9' t10 hco' hnr'
              unfold mRngD
              rw [t9', t10]
              by_cases q6 : fr ≤ rNb st5
              · have q6' : ¬ rNb st5 < fr := by rw [i_lt]; rw [i_le] at q6; omega
                rw [if_pos q6, if_neg q6']
                refine Or.inl ⟨rfl, hco', hnr', hkd, ?_⟩
                show Vl x (hRng (rVs st5) 1 fr (rNb st5)) (rVr st5) (wR s6 8 1)
                rw [e5, e6]
                exact vl_r1 ⟨k4, k5⟩ ⟨p4, p5⟩ t9' t10 hV6
              · have q6' : rNb st5 < fr := by rw [i_lt]; rw [i_le] at q6; omega
                rw [if_neg q6, if_pos q6']
                refine Or.inl ⟨rfl, hco', hnr', hkd, ?_⟩
                show Vl x (rVs st5) (rVr st5) (wR s6 8 0)
                rw [e5, e6]
                exact hV6
            · rw [bnd_f p1]
              refine Or.inr ⟨rfl, ?_⟩
              unfold mRngD
              split
              · exact p2
              · exact p2
          · rw [if_neg q5, if_neg q5]
            exact Or.inl ⟨rfl, g4.1, g4.2.1, g4.2.2.1, hV2⟩
        · rw [bnd_f n1]
          refine Or.inr ⟨rfl, ?_⟩
          unfold mRngC
          rw [if_neg (b1n n2.1)]
          exact n2
      · rw [bnd_f k1]
        have kb := kb_exp (c := 45) (wR (mNum s1 99999).2 9 (mNum s1 99999).1) k2.1
        refine Or.inr ⟨rfl, ?_⟩
        have kb1 : gR (mExp (wR (mNum s1 99999).2 9 (mNum s1 99999).1) 45).2 4 = 1 := kb.1
        unfold mRngC
        rw [if_neg (b1n kb1)]
        exact ⟨kb1, kb.2.trans k2.2⟩
  · rw [bnd_f h1]
    refine Or.inr ⟨rfl, ?_⟩
    unfold mRngG
    rw [if_neg (b1n h2.1)]
    exact h2
theorem kb_mtL : ∀ k : Nat, Kb (fun s => mMtL k s) := by
  intro k s h
  cases k with
  | zero => exact ⟨h, rfl⟩
  | succ k =>
    show gR (mMtL (k + 1) s) 4 = 1 ∧ gR (mMtL (k + 1) s) 5 = gR s 5
    unfold mMtL
    rw [if_neg (b1n h)]
    exact ⟨h, rfl⟩
theorem ok_mtL {T : TX} {x : Int32} : ∀ (k j : Nat) (st : RS) (s : MS), Sm T x st s → gR s 11 = nI j → j + (k + 1) = 8 → Ok (Sm T x) (fVerL T (k + 1) st) (mMtL (k + 1) s) := by
  intro k
  induction k with
  | zero =>
    intro j st s h hj hk
    rw [fVerL, mMtL, if_pos h.1.2.1]
    rcases ok_take (c := 34) (by decide) h.1 with ⟨h1, h2⟩ | ⟨h1, h2⟩
    · rw [bnd_t h1]
      have g := sm_nx h h2
      have gj : gR (mExp s 34).2 11 = nI j := by rw [kq_exp.2 11 (by decide)]; exact hj
      generalize (mExp s 34).2 = s1 at g gj
      generalize (fTake T st 34).2 = st1 at g
      unfold mMtA
      rcases ok_num (m := 99999) g.1 with ⟨k1, k2, k3, k4, k5⟩ | ⟨k1, k2⟩
      · rw [bnd_t k1, k3]
        have g2 := sm_nx g k2
        have gj2 : gR (mNum s1 99999).2 11 = nI j := by rw [kq_num.2 11 (by decide)]; exact gj
        generalize (mNum s1 99999).2 = s2 at g2 gj2
        generalize (fNum T st1 99999).2 = st2 at g2
        obtain ⟨y, ey⟩ : ∃ z : Int32, z = rNb st2 := ⟨_, rfl⟩
        by_cases q : mSee s2 = 34
        · rw [(take_t g2.1 q).1, bnd_t rfl, (take_t g2.1 q).2, if_pos rfl]
          have g3 := sm_nx g2 (nx_nx g2.1 (see_lt q (by decide)))
          have e1 : rNb (nxt st2) = rNb st2 := rfl
          have gj3 : gR (mNx s2) 11 = nI j := gj2
          unfold mMtB
          rw [if_pos g3.1.2.1]
          have g4 : Sm T x (dAdd (nxt st2) (rNb (nxt st2))) (mMtP (mNx s2) (rNb st2)) := ⟨g3.1, g3.2.1, g3.2.2.1, vl_mt (m := j) (by omega) gj3 g3.2.2.2⟩
          unfold mMtC
          split
          · rw [if_pos rfl]; exact Or.inl ⟨rfl, g4⟩
          · exact Or.inl ⟨rfl, g4⟩
        · rw [(take_f g2.1 q).1, bnd_f rfl, (take_f g2.1 q).2]
          unfold mMtB
          have hw := bad_here g2.1
          rw [if_neg (b1n hw.1)]
          exact Or.inr ⟨rfl, hw⟩
      · rw [bnd_f k1]
        have kb := kb_exp (c := 34) (mNum s1 99999).2 k2.1
        have kb1 : gR (mExp (mNum s1 99999).2 34).2 4 = 1 := kb.1
        unfold mMtB
        rw [if_neg (b1n kb1)]
        exact Or.inr ⟨rfl, kb1, kb.2.trans k2.2⟩
    · rw [bnd_f h1]
      unfold mMtA
      have kb := (kb_num (m := 99999)).cp (kb_exp (c := 34)) (mExp s 34).2 h2.1
      have kb1 : gR (mExp (mNum (mExp s 34).2 99999).2 34).2 4 = 1 := kb.1
      unfold mMtB
      rw [if_neg (b1n kb1)]
      exact Or.inr ⟨rfl, kb1, kb.2.trans h2.2⟩
  | succ k ih =>
    intro j st s h hj hk
    rw [fVerL, mMtL, if_pos h.1.2.1]
    rcases ok_take (c := 34) (by decide) h.1 with ⟨h1, h2⟩ | ⟨h1, h2⟩
    · rw [bnd_t h1]
      have g := sm_nx h h2
      have gj : gR (mExp s 34).2 11 = nI j := by rw [kq_exp.2 11 (by decide)]; exact hj
      generalize (mExp s 34).2 = s1 at g gj
      generalize (fTake T st 34).2 = st1 at g
      unfold mMtA
      rcases ok_num (m := 99999) g.1 with ⟨k1, k2, k3, k4, k5⟩ | ⟨k1, k2⟩
      · rw [bnd_t k1, k3]
        have g2 := sm_nx g k2
        have gj2 : gR (mNum s1 99999).2 11 = nI j := by rw [kq_num.2 11 (by decide)]; exact gj
        generalize (mNum s1 99999).2 = s2 at g2 gj2
        generalize (fNum T st1 99999).2 = st2 at g2
        by_cases q : mSee s2 = 34
        · have e0 : ¬ k + 1 = 0 := by omega
          rw [(take_t g2.1 q).1, bnd_t rfl, (take_t g2.1 q).2, if_neg e0]
          have g3 := sm_nx g2 (nx_nx g2.1 (see_lt q (by decide)))
          have gj3 : gR (mNx s2) 11 = nI j := gj2
          unfold mMtB
          rw [if_pos g3.1.2.1]
          have g4 : Sm T x (dAdd (nxt st2) (rNb (nxt st2))) (mMtP (mNx s2) (rNb st2)) := ⟨g3.1, g3.2.1, g3.2.2.1, vl_mt (m := j) (by omega) gj3 g3.2.2.2⟩
          have gj4 : gR (mMtP (mNx s2) (rNb st2)) 11 = nI (j + 1) := mt_nx gj3
          show Ok (Sm T x) (if (fSkip T (dAdd (nxt st2) (rNb (nxt st2))) 44).1 = true then bnd (fTake T (fSkip T (dAdd (nxt st2) (rNb (nxt st2))) 44).2 32) (fun s => fVerL T (k + 1) s) else (true, (fSkip T (dAdd (nxt st2) (rNb (nxt st2))) 44).2)) (mMtC (k + 1) (fun s => mMtL (k + 1) s) (mMtP (mNx s2) (rNb st2)))
          generalize mMtP (mNx s2) (rNb st2) = s4 at g4 gj4
          generalize dAdd (nxt st2) (rNb (nxt st2)) = st4 at g4
          unfold mMtC
          by_cases q3 : mSee s4 = 44
          · rw [skip_t g4.1 q3, if_pos rfl, if_pos q3, if_neg e0]
            have g5 := sm_nx g4 (nx_nx g4.1 (see_lt q3 (by decide)))
            have gj5 : gR (mNx s4) 11 = nI (j + 1) := gj4
            refine ok_bnd (P := fun st' s' => Sm T x st' s' ∧ gR s' 11 = nI (j + 1)) (K := fun s => mMtL (k + 1) s) ?_ ?_ (kb_mtL _)
            · rcases ok_take (c := 32) (by decide) g5.1 with ⟨n1, n2⟩ | ⟨n1, n2⟩
              · exact Or.inl ⟨n1, sm_nx g5 n2, by rw [kq_exp.2 11 (by decide)]; exact gj5⟩
              · exact Or.inr ⟨n1, n2⟩
            · intro st' s' hp
              exact ih (j + 1) st' s' hp.1 hp.2 (by omega)
          · rw [skip_f g4.1 q3, if_neg (fne _), if_neg q3]
            exact Or.inl ⟨rfl, g4⟩
        · rw [(take_f g2.1 q).1, bnd_f rfl, (take_f g2.1 q).2]
          unfold mMtB
          have hw := bad_here g2.1
          rw [if_neg (b1n hw.1)]
          exact Or.inr ⟨rfl, hw⟩
      · rw [bnd_f k1]
        have kb := kb_exp (c := 34) (mNum s1 99999).2 k2.1
        have kb1 : gR (mExp (mNum s1 99999).2 34).2 4 = 1 := kb.1
        unfold mMtB
        rw [if_neg (b1n kb1)]
        exact Or.inr ⟨rfl, kb1, kb.2.trans k2.2⟩
    · rw [bnd_f h1]
      unfold mMtA
      have kb := (kb_num (m := 99999)).cp (kb_exp (c := 34)) (mExp s 34).2 h2.1
      have kb1 : gR (mExp (mNum (mExp s 34).2 99999).2 34).2 4 = 1 := kb.1
      unfold mMtB
      rw [if_neg (b1n kb1)]
      exact Or.inr ⟨rfl, kb1, kb.2.trans h2.2⟩
theorem hset6 (v : Nat → Int32) (y : Int32) : hSet v 6 y = upd v 6 y := by unfold hSet; rw [if_neg (by decide), if_neg (by decide)]; rfl
theorem ok_mat {T : TX} {x : Int32} {st : RS} {s : MS} (h : Sm T x st s) (h11 : gR s 11 = 0) : Ok (Sm T x) (fVer T st) (mMat s) := by
  unfold fVer mMat
  by_cases q : mSee s = 42
  · rw [skip_t h.1 q, if_pos rfl, if_pos q]
    have g := sm_nx h (nx_nx h.1 (see_lt q (by decide)))
    refine Or.inl ⟨rfl, g.1, g.2.1, g.2.2.1, ?_⟩
    show Vl x (hSet (rVs (nxt st)) 6 1) (rVr (nxt st)) _
    rw [hset6]
    exact vl_16 g.2.2.2
  · rw [skip_f h.1 q, if_neg (fne _), if_neg q]
    exact ok_mtL 7 0 st s h h11 rfl
