/-! small rows: numbers, places -/
theorem nI_gno {b : Int32} {j N : Nat} (hb : b = nI N) (h : j < N) (hN : N < 2 ^ 31) : ¬ b ≤ nI j := by subst hb; exact nI_ge h hN
theorem nI_gyes {b : Int32} {j N : Nat} (hb : b = nI N) (h : N ≤ j) (hj : j < 2 ^ 31) : b ≤ nI j := by subst hb; exact nI_le h hj
theorem nI_tno {b : Int32} {j N : Nat} (hb : b = nI N) (h : j ≤ N) (hN : N < 2 ^ 31) : ¬ b < nI j := by subst hb; exact nI_nlt h hN
theorem nI_tyes {b : Int32} {j N : Nat} (hb : b = nI N) (h : N < j) (hj : j < 2 ^ 31) : b < nI j := by subst hb; exact nI_lt h hj
theorem nI_k0 {b : Int32} {j k N : Nat} (hb : b = nI N) (h : j + (k + 1) = N + 1) (hN : N < 2 ^ 31) (c : nI j = b) : k = 0 := by
  subst hb
  have q := (nI_eq (a := j) (b := N) (by omega) hN).mp c
  omega
theorem nI_k1 {b : Int32} {j N : Nat} (hb : b = nI N) (h : j = N) : nI j = b := by rw [hb, h]
theorem i_lt {a b : Int32} : a < b ↔ a.toInt < b.toInt := Int32.lt_iff_toInt_lt
theorem i_le {a b : Int32} : a ≤ b ↔ a.toInt ≤ b.toInt := Int32.le_iff_toInt_le
theorem cl_le (x : Int32) : x.toNatClampNeg < 2 ^ 31 := by
  have h : x.toInt < 2 ^ 31 := Int32.toInt_lt x
  show x.toInt.toNat < 2 ^ 31
  omega
theorem nI_cno {x : Int32} {j : Nat} (h : j < x.toNatClampNeg) : ¬ x ≤ nI j := by
  have h0 := cl_le x
  have h1 : j < x.toInt.toNat := h
  rw [i_le, nI_toInt (by omega)]
  omega
theorem nI_cyes {x : Int32} {j : Nat} (h : x.toNatClampNeg ≤ j) (hj : j < 2 ^ 31) : x ≤ nI j := by
  have h1 : x.toInt.toNat ≤ j := h
  rw [i_le, nI_toInt hj]
  omega
theorem mAt_in {T : TX} {i : Int32} (hT : T.2 ≤ 300) (h0 : ¬ i < 0) (h1 : ¬ T.2 ≤ i) : vp_in i 300 := by
  rw [i_le] at hT h1
  rw [i_lt] at h0
  have e0 : (0 : Int32).toInt = 0 := by decide
  have e3 : (300 : Int32).toInt = 300 := by decide
  rw [e0] at h0
  rw [e3] at hT
  exact vp_in_iff.mpr ⟨by omega, by omega⟩
theorem hix {i b : Int32} {N : Nat} (hb : b.toInt = N) (h0 : ¬ i < 0) (h1 : ¬ b ≤ i) : vp_in i N := by
  rw [i_le, hb] at h1
  rw [i_lt] at h0
  have e0 : (0 : Int32).toInt = 0 := by decide
  rw [e0] at h0
  exact vp_in_iff.mpr ⟨by omega, by omega⟩
theorem hix18 {i : Int32} (h0 : ¬ i < 0) (h1 : ¬ (18 : Int32) ≤ i) : vp_in i 18 := hix (b := 18) (by decide) h0 h1
theorem hix8 {i : Int32} (h0 : ¬ i < 0) (h1 : ¬ (8 : Int32) ≤ i) : vp_in i 8 := hix (b := 8) (by decide) h0 h1
theorem hixN {i : Int32} (h0 : 0 ≤ i) (h1 : ¬ (100 : Int32) ≤ i) : vp_in i 100 := hix (b := 100) (by decide) (fun h => by rw [i_le] at h0; rw [i_lt] at h; omega) h1
/-- the literals -/
def sw (i : Nat) : List Int32 := bytJS.getD i []
theorem sw_all : ∀ i, i < nJS → ((sw i).length < 100 ∧ lenJS.getD i 0 = (sw i).length ∧ ∀ b ∈ sw i, (b &&& 255).toUInt32 % 65536 = b.toUInt32 ∧ b.toInt8.toInt32 = b ∧ b &&& 255 = b) := by decide +kernel
theorem sw_len {i : Nat} (hi : i < nJS) : (sw i).length < 100 := (sw_all i hi).1
theorem sw_nil {i j : Nat} (h : (sw i).length ≤ j) : (sw i).drop j = [] := List.drop_eq_nil_iff.mpr h
theorem sw_cons {i j : Nat} (h : j < (sw i).length) : (sw i).drop j = (sw i).getD j 0 :: (sw i).drop (j + 1) := by
  rw [List.drop_eq_getElem_cons h]
  congr 1
  simp [List.getD, h]
theorem sw_mem {i j : Nat} (hj : j < (sw i).length) : (sw i).getD j 0 ∈ sw i := by
  have e : (sw i).getD j 0 = (sw i)[j] := by simp [List.getD, hj]
  rw [e]
  exact List.getElem_mem hj
theorem sw_c {i j : Nat} (hi : i < nJS) (hj : j < (sw i).length) : (((sw i).getD j 0 &&& 255).toUInt32 % 65536).toInt32 = (sw i).getD j 0 := by
  rw [((sw_all i hi).2.2 _ (sw_mem hj)).1]
  rfl
theorem sw_nar {i j : Nat} (hi : i < nJS) (hj : j < (sw i).length) : narrow .char (.int ((sw i).getD j 0)) = .int ((sw i).getD j 0) := by
  rw [← sw_c hi hj]
  exact pk_nc _
/-! how many NAMES there are stays, but for readName -/
theorem nm_skip (T : TX) (s : RS) (c : Int32) : rNm (fSkip T s c).2 = rNm s := by unfold fSkip; split <;> rfl
theorem nm_take (T : TX) (s : RS) (c : Int32) : rNm (fTake T s c).2 = rNm s := by unfold fTake; split <;> rfl
theorem nm_all (T : TX) : ∀ (w : List Int32) (s : RS), rNm (fAll T w s).2 = rNm s := by
  intro w
  induction w with
  | nil => intro s; rfl
  | cons c cs ih => intro s; unfold fAll; split
                    · rw [ih]; rfl
                    · rfl
theorem nm_numL (T : TX) : ∀ (k : Nat) (s : RS), rNm (fNumL T k s) = rNm s := by
  intro k
  induction k with
  | zero => intro s; rfl
  | succ k ih => intro s; unfold fNumL; split
                 · rw [ih]; rfl
                 · rfl
theorem nm_num (T : TX) (s : RS) (m : Int32) : rNm (fNum T s m).2 = rNm s := by
  have h := nm_numL T 5 (sNb s 0)
  unfold fNum fNumE
  split
  · exact h
  · split <;> exact h
theorem nm_letL (T : TX) : ∀ (k : Nat) (s : RS), rNm (fLetL T k s) = rNm s := by
  intro k
  induction k with
  | zero => intro s; rfl
  | succ k ih => intro s; unfold fLetL; split
                 · rw [ih]; rfl
                 · rfl
theorem nm_let (T : TX) (s : RS) (m : Nat) : rNm (fLet T s m).2 = rNm s := by
  have h := nm_letL T (m + 1) (sWs s (rPl s))
  unfold fLet fLetE
  split
  · exact h
  · split <;> exact h
theorem nm_anyL (T : TX) : ∀ (k : Nat) (s : RS), rNm (fAnyL T k s) = rNm s := by
  intro k
  induction k with
  | zero => intro s; rfl
  | succ k ih => intro s; unfold fAnyL; split
                 · rfl
                 · split
                   · rfl
                   · rw [ih]; rfl
theorem nm_bnd {x : Bool × RS} {k : RS → Bool × RS} {n : Int32} (h1 : rNm x.2 = n) (h2 : ∀ s, rNm s = n → rNm (k s).2 = n) : rNm (bnd x k).2 = n := by
  unfold bnd
  cases x.1 with
  | true => exact h2 _ h1
  | false => exact h1
theorem nm_rng (T : TX) (s : RS) (w : List Int32) : rNm (fRng T s w).2 = rNm s := by
  unfold fRng
  refine nm_bnd (nm_all T w s) (fun s1 h1 => nm_bnd (by rw [nm_num, nm_skip, h1]) (fun s2 h2 => ?_))
  split
  · exact h2
  · unfold fRngE
    refine nm_bnd (by rw [nm_take, h2]) (fun s3 h3 => ?_)
    split
    · refine nm_bnd (by rw [nm_num, h3]) (fun s4 h4 => ?_)
      split <;> exact h4
    · exact h3
theorem nm_verL (T : TX) : ∀ (k : Nat) (s : RS), rNm (fVerL T k s).2 = rNm s := by
  intro k
  induction k with
  | zero => intro s; rfl
  | succ k ih =>
    intro s
    unfold fVerL
    refine nm_bnd (nm_take T s 34) (fun s1 h1 => nm_bnd (by rw [nm_num, h1]) (fun s2 h2 => nm_bnd (by rw [nm_take, h2]) (fun s3 h3 => ?_)))
    split
    · exact h3
    · split
      · exact nm_bnd (by rw [nm_take, nm_skip]; exact h3) (fun s4 h4 => by rw [ih, h4])
      · rw [nm_skip]; exact h3
theorem nm_ver (T : TX) (s : RS) : rNm (fVer T s).2 = rNm s := by
  unfold fVer
  split
  · exact nm_skip T s 42
  · rw [nm_verL, nm_skip]
theorem nm_len (T : TX) (s : RS) : rNm (fLen T s).2 = rNm s := by
  unfold fLen
  exact nm_bnd (nm_num T s 255) (fun s1 h1 => h1)
theorem nm_keyL (T : TX) : ∀ (k : Nat) (s : RS), rNm (fKeyL T k s).2 = rNm s := by
  intro k
  induction k with
  | zero => intro s; rfl
  | succ k ih =>
    intro s
    unfold fKeyL
    split
    · rfl
    · split
      · split
        · rfl
        · split
          · rw [ih, nm_skip]; rfl
          · rw [nm_skip]; rfl
      · rfl
theorem nm_bare (T : TX) (s : RS) : rNm (fBare T s) = rNm s := by unfold fBare; repeat' split
                                                                  all_goals rfl
theorem nm_with (T : TX) (s : RS) : rNm (fWith T s) = rNm s := by unfold fWith; repeat' split
                                                                  all_goals rfl
theorem nm_lisE {T : TX} {k : RS → Bool × RS} {s : RS} {n : Int32} (h : rNm s = n) (hk : ∀ s, rNm s = n → rNm (k s).2 = n) : rNm (lisE T k s).2 = n := by
  unfold lisE
  split
  · exact nm_bnd (by rw [nm_take, nm_skip, h]) hk
  · rw [nm_skip, h]
theorem nm_lisL (T : TX) : ∀ (k : Nat) (s : RS), rNm (fLisL T k s).2 = rNm s := by
  intro k
  induction k with
  | zero => intro s; rfl
  | succ k ih =>
    intro s
    unfold fLisL
    refine nm_bnd (nm_let T s 30) (fun s1 h1 => ?_)
    split
    · exact nm_bnd (by rw [nm_num, nm_skip, h1]) (fun s2 h2 => nm_lisE (by rw [nm_with, h2]) (fun s3 h3 => by rw [ih, h3]))
    · exact nm_lisE (by rw [nm_bare, nm_skip, h1]) (fun s3 h3 => by rw [ih, h3])
theorem nm_val (T : TX) (s : RS) : rNm (fVal T s).2 = rNm s := by
  have h := nm_skip T s 32
  show rNm (fValE T (fSkip T s 32).2).2 = rNm s
  rw [← h]
  generalize (fSkip T s 32).2 = s1
  unfold fValE
  split
  · exact nm_lisL T 300 s1
  · split
    · split
      · exact nm_rng T s1 _
      · split
        · exact nm_ver T s1
        · exact nm_anyL T 300 s1
    · split
      · split
        · exact nm_len T s1
        · split
          · exact nm_keyL T 8 s1
          · exact nm_anyL T 300 s1
      · exact nm_anyL T 300 s1
theorem nm_namE (T : TX) (s : RS) (h : 0 ≤ rNm s) : 0 ≤ rNm (fNamE T s).2 := by
  unfold fNamE
  split
  · exact h
  · rename_i h1
    split
    · exact h
    · show 0 ≤ rNm s + 1
      rw [i_le] at h h1 ⊢
      have e0 : (0 : Int32).toInt = 0 := by decide
      have e1 : (100 : Int32).toInt = 100 := by decide
      have e2 : (1 : Int32).toInt = 1 := by decide
      rw [e0] at h ⊢
      rw [e1] at h1
      rw [Int32.toInt_add, e2]
      rw [Int.bmod_eq_of_le (by omega) (by omega)]
      omega
theorem ge_bnd {x : Bool × RS} {k : RS → Bool × RS} (h1 : 0 ≤ rNm x.2) (h2 : ∀ s, 0 ≤ rNm s → 0 ≤ rNm (k s).2) : 0 ≤ rNm (bnd x k).2 := by
  unfold bnd
  cases x.1 with
  | true => exact h2 _ h1
  | false => exact h1
theorem nm_nam (T : TX) (s : RS) (h : 0 ≤ rNm s) : 0 ≤ rNm (fNam T s).2 := by
  unfold fNam
  exact ge_bnd (by rw [nm_let]; exact h) (fun s1 h1 => ge_bnd (by rw [nm_take]; exact h1) (fun s2 h2 => nm_namE T s2 h2))
theorem nm_verb (T : TX) (s : RS) : rNm (fVerb T s).2 = rNm s := by
  unfold fVerb
  split
  · rw [nm_all]; rfl
  · split
    · rw [nm_all]; rfl
    · rw [nm_all]; rfl
theorem nm_tgt (T : TX) (s : RS) : rNm (fTgt T s).2 = rNm s := by
  unfold fTgt
  refine nm_bnd (nm_num T s 31) (fun s1 h1 => ?_)
  unfold fTgtE
  split
  · exact h1
  · split
    · exact nm_bnd (by rw [nm_num, nm_skip]; exact h1) (fun s2 h2 => h2)
    · rw [nm_skip]; exact h1
theorem nm_fst (T : TX) (s : RS) : rNm (fFst T s).2 = rNm s := by
  unfold fFst
  exact nm_bnd (nm_verb T s) (fun s1 h1 => nm_bnd (by rw [nm_take, h1]) (fun s2 h2 => nm_bnd (by rw [nm_take, h2]) (fun s3 h3 => nm_bnd (by rw [nm_tgt, h3]) (fun s4 h4 => nm_bnd (by rw [nm_take, h4]) (fun s5 h5 => h5)))))
theorem i_m1 (x : Int32) : x + Int32.ofInt (-1) = x - 1 := by
  rw [Int32.sub_eq_add_neg]
  rfl
/-- typing: how the length grows stays in its room -/
theorem ap_in {x : Int32} {k : Nat} (h0 : 0 ≤ x) (h : x.toInt + ((k + 1 : Nat) : Int) ≤ 300) : vp_in x 300 := by
  rw [i_le] at h0
  have e0 : (0 : Int32).toInt = 0 := by decide
  rw [e0] at h0
  exact vp_in_iff.mpr ⟨h0, by omega⟩
theorem ap_k {x : Int32} {k : Nat} (h0 : 0 ≤ x) (h : x.toInt + ((k + 1 : Nat) : Int) ≤ 300) : k < 2 ^ 31 := by
  rw [i_le] at h0
  have e0 : (0 : Int32).toInt = 0 := by decide
  rw [e0] at h0
  omega
theorem ap_nx {x : Int32} {k : Nat} (h0 : 0 ≤ x) (h : x.toInt + ((k + 1 : Nat) : Int) ≤ 300) : 0 ≤ x + 1 ∧ (x + 1).toInt + (k : Int) ≤ 300 := by
  rw [i_le] at h0
  have e0 : (0 : Int32).toInt = 0 := by decide
  have e1 : (1 : Int32).toInt = 1 := by decide
  rw [e0] at h0
  have e : (x + 1).toInt = x.toInt + 1 := by
    rw [Int32.toInt_add, e1, Int.bmod_eq_of_le (by omega) (by omega)]
  rw [i_le, e0, e]
  omega
theorem ap_st {n x : Int32} (h1 : ¬ n < 1) (h8 : ¬ 8 < n) (h0 : 0 ≤ x) (h3 : x ≤ 300) (h : n ≤ 300 - x) : x.toInt + (n.toNatClampNeg : Int) ≤ 300 ∧ n = nI n.toNatClampNeg ∧ n.toNatClampNeg ≤ 8 := by
  rw [i_lt] at h1 h8
  rw [i_le] at h0 h h3
  have e0 : (0 : Int32).toInt = 0 := by decide
  have e1 : (1 : Int32).toInt = 1 := by decide
  have e8 : (8 : Int32).toInt = 8 := by decide
  have e3 : (300 : Int32).toInt = 300 := by decide
  rw [e0] at h0
  rw [e1] at h1
  rw [e8] at h8
  rw [e3] at h3
  have ec : (n.toNatClampNeg : Int) = n.toInt := by
    show ((n.toInt.toNat : Nat) : Int) = n.toInt
    omega
  have e : (300 - x).toInt = 300 - x.toInt := by
    rw [Int32.toInt_sub, e3, Int.bmod_eq_of_le (by omega) (by omega)]
  rw [e] at h
  refine ⟨by omega, ?_, by omega⟩
  apply Int32.toInt_inj.mp
  rw [nI_toInt (by omega), ec]
