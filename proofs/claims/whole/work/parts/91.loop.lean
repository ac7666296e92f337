theorem nIa (i k : Nat) : nI i + nI k = nI (i + k) := (Int32.ofNat_add i k).symm
theorem tb05 {x : Int32} (h0 : ¬ x = 0) (h1 : ¬ x = 1) (h2 : ¬ x = 2) (h3 : ¬ x = 3) (h4 : ¬ x = 4) (h5 : ¬ x = 5) : x.toInt < 0 ∨ 5 < x.toInt := by
  rw [← Int32.toInt_inj] at h0 h1 h2 h3 h4 h5
  have e0 : (0 : Int32).toInt = 0 := by decide
  have e1 : (1 : Int32).toInt = 1 := by decide
  have e2 : (2 : Int32).toInt = 2 := by decide
  have e3 : (3 : Int32).toInt = 3 := by decide
  have e4 : (4 : Int32).toInt = 4 := by decide
  have e5 : (5 : Int32).toInt = 5 := by decide
  omega
theorem lg_in {i L : Nat} (hL : L ≤ 2048) (hi : i ≤ 4096) (h : ¬ Int32.ofNat L - 4 < nI i) : i + 4 ≤ L := by
  rw [i_lt] at h
  have e4 : (4 : Int32).toInt = 4 := by decide
  have eL : (Int32.ofNat L).toInt = L := nI_toInt (by omega)
  rw [Int32.toInt_sub, e4, eL, nI_toInt (by omega), Int.bmod_eq_of_le (by omega) (by omega)] at h
  omega
theorem gd_SW {own : String} {idx : Nat} {y : MethodName} {bytes : ByteArray} {maxL : Nat} {ret : Option FieldType} {hh : List (Nat × Nat × Nat × Nat)} (h1 : Cond.methodLink own idx y ∈ aw) (h2 : Cond.static y ∈ aw) (h4 : Cond.initialized y.cls ∈ aw) (h5 : Cond.codeWith y bytes maxL ret hh ∈ aw) : GoodIn aw (va_wsS own idx y (Cond.codeWith y bytes maxL ret hh :: aw)) := by
  intro w hw
  have hm : w ∈ aw := by
    rcases List.mem_append.mp hw with h | h
    · rcases List.mem_cons.mp h with rfl | h
      · exact h1
      rcases List.mem_cons.mp h with rfl | h
      · exact h2
      rcases List.mem_cons.mp h with rfl | h
      · exact h4
      exact absurd h List.not_mem_nil
    · rcases List.mem_cons.mp h with rfl | h
      · exact h5
      exact h
  exact ⟨hm, aw_good hm⟩
theorem lg_cmp0 (x : Int64) : lg_cmp x x = 0 := by simp [lg_cmp]
abbrev lwW (ad : Nat → Nat) (cd : Nat → ClassId) (d : DS) (bd : Nat → Nat) (ce : Nat → ClassId) (st : MS) (aO : Nat) (cO : ClassId) (f : Nat → Int64) : va_W := dkW ad cd d ++ mdW bd ce st ++ [(aO, .inl (cO, 1, .inr (.inl f)))]
abbrev lwT (cd ce : Nat → ClassId) (cO : ClassId) : List (ClassId × FieldType) := tyH cd ++ tyM ce ++ [(cO, .long)]
set_option maxHeartbeats 8000000 in
set_option maxRecDepth 100000 in
theorem law_loop {p : Program} {l : Launch} {e : Env} {s : State} {m : MethodId} {below : List Frame} {meth : Method} {c : Code} {D : va_G} {adK adV : Nat → Nat} {tF : Nat} {b L : Nat} {xs : Nat → Int32} (hst : l.stackTraces = false) (hL : L ≤ 2048) (C0 : lw_At p s m meth c b L xs) (hN : hx_N s) (bd : Nat → Nat) (ce : Nat → ClassId) (aO : Nat) (cO : ClassId) :
    ∀ (n i : Nat) (ad : Nat → Nat) (cd : Nat → ClassId) (d : DS) (st : MS) (f : Nat → Int64) (H : Heap) (locs : List Loc) (ls : Array Slot), i ≤ 2052 → L + 1 ≤ i + n → Rel i d st → hx_X D (lwT cd ce cO) adK adV tF (fun q : Nat => s.heap.size ≤ q) s s.heap → va_P D vwCl (lwW ad cd d bd ce st aO cO f) H → va_D (fun q : Nat => s.heap.size ≤ q) (lwW ad cd d bd ce st aO cO f) → va_S (fun q : Nat => s.heap.size ≤ q) s.heap H locs → lv_has ls 7 [(4, .int (nI i)), (0, .ref b), (1, .ref (ad 8)), (2, .ref (bd 0)), (3, .ref aO)] → W p l e room_1 s m #[Value.ref b] below meth c H locs (20 + i) (1247 + 6 * i) (lw_Z below #[Value.ref b] s) (F0 m 23 ls []) := by
  obtain ⟨hx, hb, hr, hml, hown, hts0, hX0, hbl, hlocks, hgv⟩ := C0
  have hts : ∀ w ∈ aw, w.before #[Value.ref b] s = true := fun w h => hts0 w (List.mem_filter.mp h).1
  have hown : s.vm.findClass "HeadDeskLaw" = some m.cls := hown
  have hA : ∀ q : Nat, s.heap.size ≤ q → (fun q : Nat => s.heap.size ≤ q) q := fun _ h => h
  have hbA : ¬ (fun q : Nat => s.heap.size ≤ q) b := Nat.not_le.mpr hbl
  have hI : hx_In p s m #[Value.ref b] c code 7 "HeadDeskLaw" aw := ⟨hx, hb, hml, hown, hts⟩
  intro n
  induction n with
  | zero =>
    intro i ad cd d st f H locs ls hi hin
    intro hR hX hP hD hS hl
    refine lv_iload hx hb d_law_23 (lv_at hl 0 rfl) ?_
    refine lv_aload_n hx hb d_law_25 rfl (lv_at hl 1 rfl) ?_
    refine va_slen hx hb hX0 hbl hbA hS d_law_26 ?_
    refine lv_iconst (v := 4) hx hb d_law_27 (by decide) ?_
    refine lv_isub hx hb d_law_28 ?_
    refine lv_icmp_gt (tgt := 307) hx hb d_law_29 (by decide) (fun c_29 => ?_) (fun c_29 => ?_)
    · refine lv_iconst (v := 1) hx hb d_law_307 (by decide) ?_
      refine va_forget (fun q hq => hS.2.2 q hq) ?_
      refine W.widen (k := 601024) (n := 7293034) (by omega) (by omega) ?_
      exact lw_ret hx hb hr hlocks d_law_308
    · exact absurd (lg_in hL (by omega) c_29) (by omega)
  | succ n ih =>
    intro i ad cd d st f H locs ls hi hin
    intro hR hX hP hD hS hl
    refine lv_iload hx hb d_law_23 (lv_at hl 0 rfl) ?_
    refine lv_aload_n hx hb d_law_25 rfl (lv_at hl 1 rfl) ?_
    refine va_slen hx hb hX0 hbl hbA hS d_law_26 ?_
    refine lv_iconst (v := 4) hx hb d_law_27 (by decide) ?_
    refine lv_isub hx hb d_law_28 ?_
    refine lv_icmp_gt (tgt := 307) hx hb d_law_29 (by decide) (fun c_29 => ?_) (fun c_29 => ?_)
    · refine lv_iconst (v := 1) hx hb d_law_307 (by decide) ?_
      refine va_forget (fun q hq => hS.2.2 q hq) ?_
      refine W.widen (k := 601024) (n := 7293034) (by omega) (by omega) ?_
      exact lw_ret hx hb hr hlocks d_law_308
    · have hlt : i + 4 ≤ L := lg_in hL (by omega) c_29
      have hcs : 20 + i ≤ room_1.cells ∧ 1247 + 6 * i ≤ room_1.slots := ⟨show 20 + i ≤ 601024 by omega, show 1247 + 6 * i ≤ 7293034 by omega⟩
      have hin0 : vp_in (nI i) L := vp_in_nI (by omega) (by omega)
      have hin1 : vp_in (nI i + 1) L := by have e : nI i + 1 = nI (i + 1) := nIa i 1; rw [e]; exact vp_in_nI (by omega) (by omega)
      have hin2 : vp_in (nI i + 2) L := by have e : nI i + 2 = nI (i + 2) := nIa i 2; rw [e]; exact vp_in_nI (by omega) (by omega)
      have hin3 : vp_in (nI i + 3) L := by have e : nI i + 3 = nI (i + 3) := nIa i 3; rw [e]; exact vp_in_nI (by omega) (by omega)
      obtain ⟨x1, ex1⟩ : ∃ z : Int32, z = xs (nI i + 1).toNatClampNeg := ⟨_, rfl⟩
      obtain ⟨x2, ex2⟩ : ∃ z : Int32, z = xs (nI i + 2).toNatClampNeg := ⟨_, rfl⟩
      obtain ⟨x3, ex3⟩ : ∃ z : Int32, z = xs (nI i + 3).toNatClampNeg := ⟨_, rfl⟩
      have hXd : hx_X D (tyH cd) adK adV tF (fun q : Nat => s.heap.size ≤ q) s s.heap := ⟨hX.1.sub [0, 1, 2, 3, 4, 5, 6] rfl, hX.2⟩
      have hXm : hx_X D (tyM ce) adK adV tF (fun q : Nat => s.heap.size ≤ q) s s.heap := ⟨hX.1.sub [7, 8, 9, 10, 11, 12] rfl, hX.2⟩
      have k301 : ∀ (ad : Nat → Nat) (cd : Nat → ClassId) (d : DS) (st : MS) (f : Nat → Int64) (H : Heap) (locs : List Loc) (ls : Array Slot) (cl sl : Nat), cl ≤ 20 + i + 1 → sl ≤ 1247 + 6 * i + 6 → Rel (i + 1) d st → hx_X D (lwT cd ce cO) adK adV tF (fun q : Nat => s.heap.size ≤ q) s s.heap → va_P D vwCl (lwW ad cd d bd ce st aO cO f) H → va_D (fun q : Nat => s.heap.size ≤ q) (lwW ad cd d bd ce st aO cO f) → va_S (fun q : Nat => s.heap.size ≤ q) s.heap H locs → lv_has ls 7 [(4, .int (nI i)), (0, .ref b), (1, .ref (ad 8)), (2, .ref (bd 0)), (3, .ref aO)] → W p l e room_1 s m #[Value.ref b] below meth c H locs cl sl (lw_Z below #[Value.ref b] s) (F0 m 301 ls []) := by
        intro ad cd d st f H locs ls cl sl h1 h2 hR hX hP hD hS hl
        refine lv_iinc (v := nI (i + 4)) (lv' := [(4, .int (nI (i + 4))), (0, .ref b), (1, .ref (ad 8)), (2, .ref (bd 0)), (3, .ref aO)]) hx hb d_law_301 hl (k := 0) rfl (nIa i 4) (by decide) rfl (fun ls hl => ?_)
        refine lv_goto (tgt := 23) hx hb d_law_304 (by decide) ?_
        refine W.widen (k := 20 + (i + 4)) (n := 1247 + 6 * (i + 4)) (by omega) (by omega) ?_
        exact ih (i + 4) ad cd d st f H locs ls (by omega) (by omega) (Rel.mono hR (by omega)) hX hP hD hS hl
      refine lv_aload_n hx hb d_law_32 rfl (lv_at hl 1 rfl) ?_
      refine lv_iload hx hb d_law_33 (lv_at hl 0 rfl) ?_
      refine va_sld hx hb hX0 hbl hbA hS hin0 d_law_35 ?_
      refine lv_bipush (v := 7) hx hb d_law_36 (by decide) ?_
      refine lv_iand hx hb d_law_38 ?_
      obtain ⟨kd, ekd⟩ : ∃ z : Int32, z = xs (nI i).toNatClampNeg &&& 7 := ⟨_, rfl⟩
      refine hx_top (v := kd) ekd.symm ?_
      by_cases h_0 : kd = 0
      · refine hx_top h_0 ?_
        refine lv_tableIn (off := 37) (tgt := 76) hx hb d_law_39 (by decide) (by decide) rfl (by decide) ?_
        have hq := rel_type hR (x1.toInt64 <<< ((32 : Int32).toInt64 &&& 63) ||| x2.toInt64 &&& 4294967295) x3
        refine lv_aload_n hx hb d_law_76 rfl (lv_at hl 2 rfl) ?_
        refine lv_aload_n hx hb d_law_77 rfl (lv_at hl 1 rfl) ?_
        refine lv_iload hx hb d_law_78 (lv_at hl 0 rfl) ?_
        refine lv_iconst (v := 1) hx hb d_law_80 (by decide) ?_
        refine lv_iadd hx hb d_law_81 ?_
        refine va_sld hx hb hX0 hbl hbA hS hin1 d_law_82 ?_
        refine hx_top (v := x1) ex1.symm ?_
        refine lv_i2l (v := x1.toInt64) hx hb d_law_83 rfl ?_
        refine lv_bipush (v := 32) hx hb d_law_84 (by decide) ?_
        refine lv_lshl (v := x1.toInt64 <<< ((32 : Int32).toInt64 &&& 63)) hx hb d_law_86 rfl ?_
        refine lv_aload_n hx hb d_law_87 rfl (lv_at hl 1 rfl) ?_
        refine lv_iload hx hb d_law_88 (lv_at hl 0 rfl) ?_
        refine lv_iconst (v := 2) hx hb d_law_90 (by decide) ?_
        refine lv_iadd hx hb d_law_91 ?_
        refine va_sld hx hb hX0 hbl hbA hS hin2 d_law_92 ?_
        refine hx_top (v := x2) ex2.symm ?_
        refine lv_i2l (v := x2.toInt64) hx hb d_law_93 rfl ?_
        refine lv_ldc2 (v := 4294967295) hx hb hown (hts _ m_3_227) d_law_94 ?_
        refine lv_land hx hb d_law_97 ?_
        refine lv_lor hx hb d_law_98 ?_
        refine lv_aload_n hx hb d_law_99 rfl (lv_at hl 1 rfl) ?_
        refine lv_iload hx hb d_law_100 (lv_at hl 0 rfl) ?_
        refine lv_iconst (v := 3) hx hb d_law_102 (by decide) ?_
        refine lv_iadd hx hb d_law_103 ?_
        refine va_sld hx hb hX0 hbl hbA hS hin3 d_law_104 ?_
        refine hx_top (v := x3) ex3.symm ?_
        refine hx_Vz (wr := mdW bd ce st ++ [(aO, .inl (cO, 1, .inr (.inl f)))]) (As := [.long (x1.toInt64 <<< ((32 : Int32).toInt64 &&& 63) ||| x2.toInt64 &&& 4294967295), .int x3]) (rest := []) hI (c_Desk_type d (rel_T hR).1 (rel_T hR).2.1 (x1.toInt64 <<< ((32 : Int32).toInt64 &&& 63) ||| x2.toInt64 &&& 4294967295) x3) (cw_V (C := "HeadDesk") 2 hts m_1_113 m_1_114 m_1_115 m_1_1 m_1_116 (by decide +kernel) ⟨by decide, by decide⟩) hXd hA hP hD hS [0, 1, 2, 3, 4, 5, 6, 7, 8, 9, 10, 11] [12, 13, 14, 15, 16, 17, 18, 19] rfl rfl (by decide) (by decide) (by decide) (va_recv hX.1 hP (ci := 3) (q0 := 0) rfl rfl) rfl hl.1 rfl (Nat.le_of_ble_eq_true rfl) d_law_105 hcs (fun H locs hP hD hS => ?_)
        have hP : va_P D vwCl (lwW ad cd (uT d (fApp (dT d) (x1.toInt64 <<< ((32 : Int32).toInt64 &&& 63) ||| x2.toInt64 &&& 4294967295) x3).2) bd ce st aO cO f) H := hP.sub [8, 9, 10, 11, 12, 13, 14, 15, 16, 17, 18, 19, 0, 1, 2, 3, 4, 5, 6, 7] rfl
        have hD : va_D (fun q : Nat => s.heap.size ≤ q) (lwW ad cd (uT d (fApp (dT d) (x1.toInt64 <<< ((32 : Int32).toInt64 &&& 63) ||| x2.toInt64 &&& 4294967295) x3).2) bd ce st aO cO f) := hD.sub [8, 9, 10, 11, 12, 13, 14, 15, 16, 17, 18, 19, 0, 1, 2, 3, 4, 5, 6, 7] (by decide) rfl
        refine lv_aload_n hx hb d_law_108 rfl (lv_at hl 3 rfl) ?_
        refine lv_aload_n hx hb d_law_109 rfl (lv_at hl 1 rfl) ?_
        refine lv_iload hx hb d_law_110 (lv_at hl 0 rfl) ?_
        refine lv_iconst (v := 1) hx hb d_law_112 (by decide) ?_
        refine lv_iadd hx hb d_law_113 ?_
        refine va_sld hx hb hX0 hbl hbA hS hin1 d_law_114 ?_
        refine hx_top (v := x1) ex1.symm ?_
        refine lv_i2l (v := x1.toInt64) hx hb d_law_115 rfl ?_
        refine lv_bipush (v := 32) hx hb d_law_116 (by decide) ?_
        refine lv_lshl (v := x1.toInt64 <<< ((32 : Int32).toInt64 &&& 63)) hx hb d_law_118 rfl ?_
        refine lv_aload_n hx hb d_law_119 rfl (lv_at hl 1 rfl) ?_
        refine lv_iload hx hb d_law_120 (lv_at hl 0 rfl) ?_
        refine lv_iconst (v := 2) hx hb d_law_122 (by decide) ?_
        refine lv_iadd hx hb d_law_123 ?_
        refine va_sld hx hb hX0 hbl hbA hS hin2 d_law_124 ?_
        refine hx_top (v := x2) ex2.symm ?_
        refine lv_i2l (v := x2.toInt64) hx hb d_law_125 rfl ?_
        refine lv_ldc2 (v := 4294967295) hx hb hown (hts _ m_3_227) d_law_126 ?_
        refine lv_land hx hb d_law_129 ?_
        refine lv_lor hx hb d_law_130 ?_
        refine lv_aload_n hx hb d_law_131 rfl (lv_at hl 1 rfl) ?_
        refine lv_iload hx hb d_law_132 (lv_at hl 0 rfl) ?_
        refine lv_iconst (v := 3) hx hb d_law_134 (by decide) ?_
        refine lv_iadd hx hb d_law_135 ?_
        refine va_sld hx hb hX0 hbl hbA hS hin3 d_law_136 ?_
        refine hx_top (v := x3) ex3.symm ?_
        obtain ⟨d9, e9⟩ : ∃ z : DS, z = uT d (fApp (dT d) (x1.toInt64 <<< ((32 : Int32).toInt64 &&& 63) ||| x2.toInt64 &&& 4294967295) x3).2 := ⟨_, rfl⟩
        rw [← e9] at hP hD hq
        refine hx_Vz (wr := dkW ad cd d9 ++ [(aO, .inl (cO, 1, .inr (.inl f)))]) (As := [.long (x1.toInt64 <<< ((32 : Int32).toInt64 &&& 63) ||| x2.toInt64 &&& 4294967295), .int x3]) (rest := [.int (bI (fApp (dT d) (x1.toInt64 <<< ((32 : Int32).toInt64 &&& 63) ||| x2.toInt64 &&& 4294967295) x3).1)]) hI (c_Mod_type st (rel_T hR).2.2 (x1.toInt64 <<< ((32 : Int32).toInt64 &&& 63) ||| x2.toInt64 &&& 4294967295) x3) (cw_V (C := "HeadDeskModel") 2 hts m_3_96 m_3_97 m_3_98 m_1_5 m_3_99 (by decide +kernel) ⟨by decide, by decide⟩) hXm hA hP hD hS [12, 13, 14, 15, 16, 17, 18] [0, 1, 2, 3, 4, 5, 6, 7, 8, 9, 10, 11, 19] rfl rfl (by decide) (by decide) (by decide) (va_recv hX.1 hP (ci := 4) (q0 := 12) rfl rfl) rfl hl.1 rfl (Nat.le_of_ble_eq_true rfl) d_law_137 hcs (fun H locs hP hD hS => ?_)
        have hP : va_P D vwCl (lwW ad cd d9 bd ce ((mTyp st (x1.toInt64 <<< ((32 : Int32).toInt64 &&& 63) ||| x2.toInt64 &&& 4294967295) x3).2) aO cO f) H := hP.sub [0, 1, 2, 3, 4, 5, 6, 7, 8, 9, 10, 11, 13, 14, 15, 16, 17, 18, 19, 12] rfl
        have hD : va_D (fun q : Nat => s.heap.size ≤ q) (lwW ad cd d9 bd ce ((mTyp st (x1.toInt64 <<< ((32 : Int32).toInt64 &&& 63) ||| x2.toInt64 &&& 4294967295) x3).2) aO cO f) := hD.sub [0, 1, 2, 3, 4, 5, 6, 7, 8, 9, 10, 11, 13, 14, 15, 16, 17, 18, 19, 12] (by decide) rfl
        refine lv_icmp_eq (tgt := 301) hx hb d_law_140 (by decide) (fun c_e => ?_) (fun c_e => ?_)
        · exact k301 ad cd d9 ((mTyp st (x1.toInt64 <<< ((32 : Int32).toInt64 &&& 63) ||| x2.toInt64 &&& 4294967295) x3).2) f H locs ls _ _ (by omega) (by omega) (Rel.mono hq.2 (by omega)) hX hP hD hS (lv_sub hl [0, 1, 2, 3, 4] rfl)
        · exact absurd (by rw [hq.1]) c_e
      by_cases h_1 : kd = 1
      · refine hx_top h_1 ?_
        refine lv_tableIn (off := 106) (tgt := 145) hx hb d_law_39 (by decide) (by decide) rfl (by decide) ?_
        have hq := rel_read hR x1 (by omega)
        refine lv_aload_n hx hb d_law_145 rfl (lv_at hl 2 rfl) ?_
        refine lv_aload_n hx hb d_law_146 rfl (lv_at hl 1 rfl) ?_
        refine lv_iload hx hb d_law_147 (lv_at hl 0 rfl) ?_
        refine lv_iconst (v := 1) hx hb d_law_149 (by decide) ?_
        refine lv_iadd hx hb d_law_150 ?_
        refine va_sld hx hb hX0 hbl hbA hS hin1 d_law_151 ?_
        refine hx_top (v := x1) ex1.symm ?_
        refine lv_aload_n hx hb d_law_152 rfl (lv_at hl 4 rfl) ?_
        have hXr : hx_X D (lrT cd cO) adK adV tF (fun q : Nat => s.heap.size ≤ q) s s.heap := ⟨hX.1.sub [0, 1, 2, 3, 4, 5, 6, 13] rfl, hX.2⟩
        have hFc := va_free (wc := lrW ad cd d aO cO f) hD hS hA [0, 1, 2, 3, 4, 5, 6, 7, 8, 9, 10, 11, 19] rfl
        have hpc := hx_preN hXr hN hA hP hD hS [0, 1, 2, 3, 4, 5, 6, 7, 8, 9, 10, 11, 19] (wc := lrW ad cd d aO cO f) rfl (by decide) [.ref (ad 8), .int x1, .ref aO]
        refine va_calli (vx_runSW (As := [.ref (ad 8), .int x1, .ref aO]) (rest := []) hI (c_Law_read hst d (rel_T hR).1 x1 aO cO f H.size) (vx_cwSW (hh := [(0, 9, 12, 13)]) 3 hts (gd_SW m_1_169 m_1_170 m_1_0 m_1_171) rfl rfl rfl (by decide +kernel) ⟨by decide, by decide⟩) hpc rfl rfl hl.1 rfl (lv_room (Nat.le_of_ble_eq_true rfl)) d_law_153 ⟨show 20 + i + 1 ≤ 601024 by omega, show 1247 + 6 * i + 6 ≤ 7293034 by omega⟩) hS (fun q _ h => hFc q h) hFc (fun r u t H1 locs ht hvm hw hB hz1 hk1 hS => ?_)
        obtain ⟨hP1, hD1⟩ := hB
        rw [ht] at hP1
        obtain ⟨ad1, cd1, f1⟩ := u
        obtain ⟨hP, hD⟩ := va_join (wr := mdW bd ce st) (w1 := lrW ad1 cd1 (fRd d x1).2 aO cO f1) hP hD [0, 1, 2, 3, 4, 5, 6, 7, 8, 9, 10, 11, 19] [12, 13, 14, 15, 16, 17, 18] rfl rfl (by decide) (by decide) hk1 hFc hP1 hD1
        generalize H1 = H at hP hS ⊢
        have hP : va_P D vwCl (lwW ad1 cd1 (fRd d x1).2 bd ce st aO cO f1) H := hP.sub [7, 8, 9, 10, 11, 12, 13, 14, 15, 16, 17, 18, 0, 1, 2, 3, 4, 5, 6, 19] rfl
        have hD : va_D (fun q : Nat => s.heap.size ≤ q) (lwW ad1 cd1 (fRd d x1).2 bd ce st aO cO f1) := hD.sub [7, 8, 9, 10, 11, 12, 13, 14, 15, 16, 17, 18, 0, 1, 2, 3, 4, 5, 6, 19] (by decide) rfl
        refine lv_istore (lv' := [(5, .int r), (4, .int (nI i)), (0, .ref b), (1, .ref (ad 8)), (2, .ref (bd 0)), (3, .ref aO)]) hx hb d_law_156 hl (by decide) rfl (fun ls hl => ?_)
        refine lv_aload_n hx hb d_law_158 rfl (lv_at hl 4 rfl) ?_
        refine lv_aload_n hx hb d_law_159 rfl (lv_at hl 2 rfl) ?_
        refine lv_iload hx hb d_law_160 (lv_at hl 1 rfl) ?_
        refine lv_iconst (v := 1) hx hb d_law_162 (by decide) ?_
        refine lv_iadd hx hb d_law_163 ?_
        refine va_sld hx hb hX0 hbl hbA hS hin1 d_law_164 ?_
        refine hx_top (v := x1) ex1.symm ?_
        refine hx_Vi (wr := dkW ad1 cd1 ((fRd d x1).2) ++ [(aO, .inl (cO, 1, .inr (.inl f1)))]) (As := [.int x1]) (rest := []) hI (c_Mod_read st (rel_T hR).2.2 x1) (cw_V (C := "HeadDeskModel") 1 hts m_3_101 m_3_102 m_3_103 m_1_5 m_3_104 (by decide +kernel) ⟨by decide, by decide⟩) hXm hA hP hD hS [12, 13, 14, 15, 16, 17, 18] [0, 1, 2, 3, 4, 5, 6, 7, 8, 9, 10, 11, 19] rfl rfl (by decide) (by decide) (by decide) (va_recv hX.1 hP (ci := 4) (q0 := 12) rfl rfl) rfl hl.1 rfl (Nat.le_of_ble_eq_true rfl) d_law_165 ⟨show 20 + i + 1 ≤ 601024 by omega, show 1247 + 6 * i + 6 ≤ 7293034 by omega⟩ (fun H locs hP hD hS => ?_)
        have hP : va_P D vwCl (lwW ad1 cd1 (fRd d x1).2 bd ce (mRead st x1).2 aO cO f1) H := hP.sub [0, 1, 2, 3, 4, 5, 6, 7, 8, 9, 10, 11, 13, 14, 15, 16, 17, 18, 19, 12] rfl
        have hD : va_D (fun q : Nat => s.heap.size ≤ q) (lwW ad1 cd1 (fRd d x1).2 bd ce (mRead st x1).2 aO cO f1) := hD.sub [0, 1, 2, 3, 4, 5, 6, 7, 8, 9, 10, 11, 13, 14, 15, 16, 17, 18, 19, 12] (by decide) rfl
        refine lv_istore (lv' := [(6, .int (mRead st x1).1), (5, .int r), (4, .int (nI i)), (0, .ref b), (1, .ref (ad 8)), (2, .ref (bd 0)), (3, .ref aO)]) hx hb d_law_168 hl (by decide) rfl (fun ls hl => ?_)
        obtain ⟨sr, er⟩ : ∃ z : MS, z = (mRead st x1).2 := ⟨_, rfl⟩
        rw [← er] at hP hD hq
        obtain ⟨vr, evr⟩ : ∃ z : Int32, z = (mRead st x1).1 := ⟨_, rfl⟩
        rw [← evr] at hl hq
        obtain ⟨dr, edr⟩ : ∃ z : DS, z = (fRd d x1).2 := ⟨_, rfl⟩
        unfold lr_p at hw
        rw [← edr] at hP hD hq hw
        refine lv_aload_n hx hb d_law_170 rfl (lv_at hl 5 rfl) ?_
        refine hx_Vi (wr := dkW ad1 cd1 dr ++ [(aO, .inl (cO, 1, .inr (.inl f1)))]) (As := []) (rest := []) hI (c_Mod_thrownN sr) (cw_V (C := "HeadDeskModel") 0 hts m_3_92 m_3_93 m_3_94 m_1_5 m_3_95 (by decide +kernel) ⟨by decide, by decide⟩) hXm hA hP hD hS [12, 13, 14, 15, 16, 17, 18] [0, 1, 2, 3, 4, 5, 6, 7, 8, 9, 10, 11, 19] rfl rfl (by decide) (by decide) (by decide) (va_recv hX.1 hP (ci := 4) (q0 := 12) rfl rfl) rfl hl.1 rfl (Nat.le_of_ble_eq_true rfl) d_law_171 ⟨show 20 + i + 1 ≤ 601024 by omega, show 1247 + 6 * i + 6 ≤ 7293034 by omega⟩ (fun H locs hP hD hS => ?_)
        have hP : va_P D vwCl (lwW ad1 cd1 dr bd ce sr aO cO f1) H := hP.sub [0, 1, 2, 3, 4, 5, 6, 7, 8, 9, 10, 11, 13, 14, 15, 16, 17, 18, 19, 12] rfl
        have hD : va_D (fun q : Nat => s.heap.size ≤ q) (lwW ad1 cd1 dr bd ce sr aO cO f1) := hD.sub [0, 1, 2, 3, 4, 5, 6, 7, 8, 9, 10, 11, 13, 14, 15, 16, 17, 18, 19, 12] (by decide) rfl
        refine lv_iload hx hb d_law_174 (lv_at hl 1 rfl) ?_
        rcases hw with ⟨hF, er0, eu⟩ | ⟨hF, er0, eu⟩
        · subst er0
          cases eu
          have hq := hq.1 hF
          refine lv_icmp_eq (tgt := 181) hx hb d_law_176 (by decide) (fun c_e => ?_) (fun c_e => absurd hq.1 c_e)
          refine lv_iload hx hb d_law_181 (lv_at hl 1 rfl) ?_
          refine lv_if_ne (tgt := 198) hx hb d_law_183 (by decide) (fun c_f => absurd rfl c_f) (fun c_f => ?_)
          refine lv_aload_n hx hb d_law_186 rfl (lv_at hl 6 rfl) ?_
          refine lv_iconst (v := 0) hx hb d_law_187 (by decide) ?_
          refine va_lald hx hb hX.1 hP 19 13 rfl rfl (vp_in_iff.mpr (by decide)) d_law_188 ?_
          refine lv_iload hx hb d_law_189 (lv_at hl 0 rfl) ?_
          refine lv_i2l (v := vr.toInt64) hx hb d_law_191 rfl ?_
          refine W.lcmp hx hb d_law_192 ?_
          refine lv_if_eq (tgt := 198) hx hb d_law_193 (by decide) (fun c_g => ?_) (fun c_g => ?_)
          · refine lv_goto (tgt := 301) hx hb d_law_198 (by decide) ?_
            exact k301 (adS ad) (cdS cd) dr sr _ H locs ls _ _ (by omega) (by omega) hq.2.2 ⟨hX.1.sub [0, 1, 2, 5, 6, 3, 4, 7, 8, 9, 10, 11, 12, 13] rfl, hX.2⟩ hP hD hS (lv_sub hl [2, 3, 4, 5, 6] rfl)
          · exact absurd (by rw [show vp_updL f 0 (dN dr).toInt64 (0 : Int32).toNatClampNeg = (dN dr).toInt64 from rfl, hq.2.1]; exact lg_cmp0 _) c_g
        · subst er0
          cases eu
          have hq := hq.2 hF
          refine lv_icmp_eq (tgt := 181) hx hb d_law_176 (by decide) (fun c_e => ?_) (fun c_e => absurd hq.1 c_e)
          refine lv_iload hx hb d_law_181 (lv_at hl 1 rfl) ?_
          refine lv_if_ne (tgt := 198) hx hb d_law_183 (by decide) (fun c_f => ?_) (fun c_f => absurd c_f (by decide))
          refine lv_goto (tgt := 301) hx hb d_law_198 (by decide) ?_
          exact k301 ad cd dr sr f H locs ls _ _ (by omega) (by omega) hq.2 hX hP hD hS (lv_sub hl [2, 3, 4, 5, 6] rfl)
      by_cases h_2 : kd = 2
      · refine hx_top h_2 ?_
        refine lv_tableIn (off := 162) (tgt := 201) hx hb d_law_39 (by decide) (by decide) rfl (by decide) ?_
        have hq := rel_fault hR
        refine lv_aload_n hx hb d_law_201 rfl (lv_at hl 2 rfl) ?_
        refine hx_Vi (wr := mdW bd ce st ++ [(aO, .inl (cO, 1, .inr (.inl f)))]) (As := []) (rest := []) hI (c_Desk_fault d) (cw_V (C := "HeadDesk") 0 hts m_1_127 m_1_128 m_1_129 m_1_1 m_1_130 (by decide +kernel) ⟨by decide, by decide⟩) hXd hA hP hD hS [0, 1, 2, 3, 4, 5, 6, 7, 8, 9, 10, 11] [12, 13, 14, 15, 16, 17, 18, 19] rfl rfl (by decide) (by decide) (by decide) (va_recv hX.1 hP (ci := 3) (q0 := 0) rfl rfl) rfl hl.1 rfl (Nat.le_of_ble_eq_true rfl) d_law_202 hcs (fun H locs hP hD hS => ?_)
        have hP : va_P D vwCl (lwW ad cd d bd ce st aO cO f) H := hP.sub [8, 9, 10, 11, 12, 13, 14, 15, 16, 17, 18, 19, 0, 1, 2, 3, 4, 5, 6, 7] rfl
        have hD : va_D (fun q : Nat => s.heap.size ≤ q) (lwW ad cd d bd ce st aO cO f) := hD.sub [8, 9, 10, 11, 12, 13, 14, 15, 16, 17, 18, 19, 0, 1, 2, 3, 4, 5, 6, 7] (by decide) rfl
        refine lv_aload_n hx hb d_law_205 rfl (lv_at hl 3 rfl) ?_
        refine hx_Vi (wr := dkW ad cd d ++ [(aO, .inl (cO, 1, .inr (.inl f)))]) (As := []) (rest := [.int (dL d)]) hI (c_Mod_fault st) (cw_V (C := "HeadDeskModel") 0 hts m_3_211 m_3_212 m_3_213 m_1_5 m_3_214 (by decide +kernel) ⟨by decide, by decide⟩) hXm hA hP hD hS [12, 13, 14, 15, 16, 17, 18] [0, 1, 2, 3, 4, 5, 6, 7, 8, 9, 10, 11, 19] rfl rfl (by decide) (by decide) (by decide) (va_recv hX.1 hP (ci := 4) (q0 := 12) rfl rfl) rfl hl.1 rfl (Nat.le_of_ble_eq_true rfl) d_law_206 hcs (fun H locs hP hD hS => ?_)
        have hP : va_P D vwCl (lwW ad cd d bd ce ((mFau st).2) aO cO f) H := hP.sub [0, 1, 2, 3, 4, 5, 6, 7, 8, 9, 10, 11, 13, 14, 15, 16, 17, 18, 19, 12] rfl
        have hD : va_D (fun q : Nat => s.heap.size ≤ q) (lwW ad cd d bd ce ((mFau st).2) aO cO f) := hD.sub [0, 1, 2, 3, 4, 5, 6, 7, 8, 9, 10, 11, 13, 14, 15, 16, 17, 18, 19, 12] (by decide) rfl
        refine lv_icmp_eq (tgt := 301) hx hb d_law_209 (by decide) (fun c_e => ?_) (fun c_e => ?_)
        · exact k301 ad cd d ((mFau st).2) f H locs ls _ _ (by omega) (by omega) (Rel.mono hq.2 (by omega)) hX hP hD hS (lv_sub hl [0, 1, 2, 3, 4] rfl)
        · exact absurd (by rw [hq.1]) c_e
      by_cases h_3 : kd = 3
      · refine hx_top h_3 ?_
        refine lv_tableIn (off := 175) (tgt := 214) hx hb d_law_39 (by decide) (by decide) rfl (by decide) ?_
        have hq := rel_told hR x1
        refine lv_aload_n hx hb d_law_214 rfl (lv_at hl 2 rfl) ?_
        refine lv_aload_n hx hb d_law_215 rfl (lv_at hl 1 rfl) ?_
        refine lv_iload hx hb d_law_216 (lv_at hl 0 rfl) ?_
        refine lv_iconst (v := 1) hx hb d_law_218 (by decide) ?_
        refine lv_iadd hx hb d_law_219 ?_
        refine va_sld hx hb hX0 hbl hbA hS hin1 d_law_220 ?_
        refine hx_top (v := x1) ex1.symm ?_
        refine hx_Vi (wr := mdW bd ce st ++ [(aO, .inl (cO, 1, .inr (.inl f)))]) (As := [.int x1]) (rest := []) hI (c_Desk_told d x1) (cw_V (C := "HeadDesk") 1 hts m_1_131 m_1_132 m_1_133 m_1_1 m_1_134 (by decide +kernel) ⟨by decide, by decide⟩) hXd hA hP hD hS [0, 1, 2, 3, 4, 5, 6, 7, 8, 9, 10, 11] [12, 13, 14, 15, 16, 17, 18, 19] rfl rfl (by decide) (by decide) (by decide) (va_recv hX.1 hP (ci := 3) (q0 := 0) rfl rfl) rfl hl.1 rfl (Nat.le_of_ble_eq_true rfl) d_law_221 hcs (fun H locs hP hD hS => ?_)
        have hP : va_P D vwCl (lwW ad cd d bd ce st aO cO f) H := hP.sub [8, 9, 10, 11, 12, 13, 14, 15, 16, 17, 18, 19, 0, 1, 2, 3, 4, 5, 6, 7] rfl
        have hD : va_D (fun q : Nat => s.heap.size ≤ q) (lwW ad cd d bd ce st aO cO f) := hD.sub [8, 9, 10, 11, 12, 13, 14, 15, 16, 17, 18, 19, 0, 1, 2, 3, 4, 5, 6, 7] (by decide) rfl
        refine lv_aload_n hx hb d_law_224 rfl (lv_at hl 3 rfl) ?_
        refine lv_aload_n hx hb d_law_225 rfl (lv_at hl 1 rfl) ?_
        refine lv_iload hx hb d_law_226 (lv_at hl 0 rfl) ?_
        refine lv_iconst (v := 1) hx hb d_law_228 (by decide) ?_
        refine lv_iadd hx hb d_law_229 ?_
        refine va_sld hx hb hX0 hbl hbA hS hin1 d_law_230 ?_
        refine hx_top (v := x1) ex1.symm ?_
        refine hx_Vi (wr := dkW ad cd d ++ [(aO, .inl (cO, 1, .inr (.inl f)))]) (As := [.int x1]) (rest := [.int (fTold d x1)]) hI (c_Mod_told st x1) (cw_V (C := "HeadDeskModel") 1 hts m_3_215 m_3_216 m_3_217 m_1_5 m_3_218 (by decide +kernel) ⟨by decide, by decide⟩) hXm hA hP hD hS [12, 13, 14, 15, 16, 17, 18] [0, 1, 2, 3, 4, 5, 6, 7, 8, 9, 10, 11, 19] rfl rfl (by decide) (by decide) (by decide) (va_recv hX.1 hP (ci := 4) (q0 := 12) rfl rfl) rfl hl.1 rfl (Nat.le_of_ble_eq_true rfl) d_law_231 hcs (fun H locs hP hD hS => ?_)
        have hP : va_P D vwCl (lwW ad cd d bd ce ((mTold st x1).2) aO cO f) H := hP.sub [0, 1, 2, 3, 4, 5, 6, 7, 8, 9, 10, 11, 13, 14, 15, 16, 17, 18, 19, 12] rfl
        have hD : va_D (fun q : Nat => s.heap.size ≤ q) (lwW ad cd d bd ce ((mTold st x1).2) aO cO f) := hD.sub [0, 1, 2, 3, 4, 5, 6, 7, 8, 9, 10, 11, 13, 14, 15, 16, 17, 18, 19, 12] (by decide) rfl
        refine lv_icmp_eq (tgt := 301) hx hb d_law_234 (by decide) (fun c_e => ?_) (fun c_e => ?_)
        · exact k301 ad cd d ((mTold st x1).2) f H locs ls _ _ (by omega) (by omega) (Rel.mono hq.2 (by omega)) hX hP hD hS (lv_sub hl [0, 1, 2, 3, 4] rfl)
        · exact absurd (by rw [hq.1]) c_e
      by_cases h_4 : kd = 4
      · refine hx_top h_4 ?_
        refine lv_tableIn (off := 200) (tgt := 239) hx hb d_law_39 (by decide) (by decide) rfl (by decide) ?_
        have hq := rel_mat hR x1
        refine lv_aload_n hx hb d_law_239 rfl (lv_at hl 2 rfl) ?_
        refine lv_aload_n hx hb d_law_240 rfl (lv_at hl 1 rfl) ?_
        refine lv_iload hx hb d_law_241 (lv_at hl 0 rfl) ?_
        refine lv_iconst (v := 1) hx hb d_law_243 (by decide) ?_
        refine lv_iadd hx hb d_law_244 ?_
        refine va_sld hx hb hX0 hbl hbA hS hin1 d_law_245 ?_
        refine hx_top (v := x1) ex1.symm ?_
        refine hx_Vz (wr := mdW bd ce st ++ [(aO, .inl (cO, 1, .inr (.inl f)))]) (As := [.int x1]) (rest := []) hI (c_Desk_matches d x1) (cw_V (C := "HeadDesk") 1 hts m_1_139 m_1_140 m_1_141 m_1_1 m_1_142 (by decide +kernel) ⟨by decide, by decide⟩) hXd hA hP hD hS [0, 1, 2, 3, 4, 5, 6, 7, 8, 9, 10, 11] [12, 13, 14, 15, 16, 17, 18, 19] rfl rfl (by decide) (by decide) (by decide) (va_recv hX.1 hP (ci := 3) (q0 := 0) rfl rfl) rfl hl.1 rfl (Nat.le_of_ble_eq_true rfl) d_law_246 hcs (fun H locs hP hD hS => ?_)
        have hP : va_P D vwCl (lwW ad cd d bd ce st aO cO f) H := hP.sub [8, 9, 10, 11, 12, 13, 14, 15, 16, 17, 18, 19, 0, 1, 2, 3, 4, 5, 6, 7] rfl
        have hD : va_D (fun q : Nat => s.heap.size ≤ q) (lwW ad cd d bd ce st aO cO f) := hD.sub [8, 9, 10, 11, 12, 13, 14, 15, 16, 17, 18, 19, 0, 1, 2, 3, 4, 5, 6, 7] (by decide) rfl
        refine lv_aload_n hx hb d_law_249 rfl (lv_at hl 3 rfl) ?_
        refine lv_aload_n hx hb d_law_250 rfl (lv_at hl 1 rfl) ?_
        refine lv_iload hx hb d_law_251 (lv_at hl 0 rfl) ?_
        refine lv_iconst (v := 1) hx hb d_law_253 (by decide) ?_
        refine lv_iadd hx hb d_law_254 ?_
        refine va_sld hx hb hX0 hbl hbA hS hin1 d_law_255 ?_
        refine hx_top (v := x1) ex1.symm ?_
        refine hx_Vz (wr := dkW ad cd d ++ [(aO, .inl (cO, 1, .inr (.inl f)))]) (As := [.int x1]) (rest := [.int (bI (fMat d x1))]) hI (c_Mod_matches st (rel_T hR).2.2 x1) (cw_V (C := "HeadDeskModel") 1 hts m_3_219 m_3_220 m_3_221 m_1_5 m_3_222 (by decide +kernel) ⟨by decide, by decide⟩) hXm hA hP hD hS [12, 13, 14, 15, 16, 17, 18] [0, 1, 2, 3, 4, 5, 6, 7, 8, 9, 10, 11, 19] rfl rfl (by decide) (by decide) (by decide) (va_recv hX.1 hP (ci := 4) (q0 := 12) rfl rfl) rfl hl.1 rfl (Nat.le_of_ble_eq_true rfl) d_law_256 hcs (fun H locs hP hD hS => ?_)
        have hP : va_P D vwCl (lwW ad cd d bd ce ((mMch st x1).2) aO cO f) H := hP.sub [0, 1, 2, 3, 4, 5, 6, 7, 8, 9, 10, 11, 13, 14, 15, 16, 17, 18, 19, 12] rfl
        have hD : va_D (fun q : Nat => s.heap.size ≤ q) (lwW ad cd d bd ce ((mMch st x1).2) aO cO f) := hD.sub [0, 1, 2, 3, 4, 5, 6, 7, 8, 9, 10, 11, 13, 14, 15, 16, 17, 18, 19, 12] (by decide) rfl
        refine lv_icmp_eq (tgt := 301) hx hb d_law_259 (by decide) (fun c_e => ?_) (fun c_e => ?_)
        · exact k301 ad cd d ((mMch st x1).2) f H locs ls _ _ (by omega) (by omega) (Rel.mono hq.2 (by omega)) hX hP hD hS (lv_sub hl [0, 1, 2, 3, 4] rfl)
        · exact absurd (by rw [hq.1]) c_e
      by_cases h_5 : kd = 5
      · refine hx_top h_5 ?_
        refine lv_tableIn (off := 225) (tgt := 264) hx hb d_law_39 (by decide) (by decide) rfl (by decide) ?_
        have hq := rel_byt hR x1 x2
        refine lv_aload_n hx hb d_law_264 rfl (lv_at hl 2 rfl) ?_
        refine lv_aload_n hx hb d_law_265 rfl (lv_at hl 1 rfl) ?_
        refine lv_iload hx hb d_law_266 (lv_at hl 0 rfl) ?_
        refine lv_iconst (v := 1) hx hb d_law_268 (by decide) ?_
        refine lv_iadd hx hb d_law_269 ?_
        refine va_sld hx hb hX0 hbl hbA hS hin1 d_law_270 ?_
        refine hx_top (v := x1) ex1.symm ?_
        refine lv_aload_n hx hb d_law_271 rfl (lv_at hl 1 rfl) ?_
        refine lv_iload hx hb d_law_272 (lv_at hl 0 rfl) ?_
        refine lv_iconst (v := 2) hx hb d_law_274 (by decide) ?_
        refine lv_iadd hx hb d_law_275 ?_
        refine va_sld hx hb hX0 hbl hbA hS hin2 d_law_276 ?_
        refine hx_top (v := x2) ex2.symm ?_
        refine hx_Vi (wr := mdW bd ce st ++ [(aO, .inl (cO, 1, .inr (.inl f)))]) (As := [.int x1, .int x2]) (rest := []) hI (c_Desk_bytes d x1 x2) (cw_V (C := "HeadDesk") 2 hts m_1_151 m_1_152 m_1_153 m_1_1 m_1_154 (by decide +kernel) ⟨by decide, by decide⟩) hXd hA hP hD hS [0, 1, 2, 3, 4, 5, 6, 7, 8, 9, 10, 11] [12, 13, 14, 15, 16, 17, 18, 19] rfl rfl (by decide) (by decide) (by decide) (va_recv hX.1 hP (ci := 3) (q0 := 0) rfl rfl) rfl hl.1 rfl (Nat.le_of_ble_eq_true rfl) d_law_277 hcs (fun H locs hP hD hS => ?_)
        have hP : va_P D vwCl (lwW ad cd d bd ce st aO cO f) H := hP.sub [8, 9, 10, 11, 12, 13, 14, 15, 16, 17, 18, 19, 0, 1, 2, 3, 4, 5, 6, 7] rfl
        have hD : va_D (fun q : Nat => s.heap.size ≤ q) (lwW ad cd d bd ce st aO cO f) := hD.sub [8, 9, 10, 11, 12, 13, 14, 15, 16, 17, 18, 19, 0, 1, 2, 3, 4, 5, 6, 7] (by decide) rfl
        refine lv_aload_n hx hb d_law_280 rfl (lv_at hl 3 rfl) ?_
        refine lv_aload_n hx hb d_law_281 rfl (lv_at hl 1 rfl) ?_
        refine lv_iload hx hb d_law_282 (lv_at hl 0 rfl) ?_
        refine lv_iconst (v := 1) hx hb d_law_284 (by decide) ?_
        refine lv_iadd hx hb d_law_285 ?_
        refine va_sld hx hb hX0 hbl hbA hS hin1 d_law_286 ?_
        refine hx_top (v := x1) ex1.symm ?_
        refine lv_aload_n hx hb d_law_287 rfl (lv_at hl 1 rfl) ?_
        refine lv_iload hx hb d_law_288 (lv_at hl 0 rfl) ?_
        refine lv_iconst (v := 2) hx hb d_law_290 (by decide) ?_
        refine lv_iadd hx hb d_law_291 ?_
        refine va_sld hx hb hX0 hbl hbA hS hin2 d_law_292 ?_
        refine hx_top (v := x2) ex2.symm ?_
        refine hx_Vi (wr := dkW ad cd d ++ [(aO, .inl (cO, 1, .inr (.inl f)))]) (As := [.int x1, .int x2]) (rest := [.int (fByt d x1 x2)]) hI (c_Mod_bytes st x1 x2) (cw_V (C := "HeadDeskModel") 2 hts m_3_223 m_3_224 m_3_225 m_1_5 m_3_226 (by decide +kernel) ⟨by decide, by decide⟩) hXm hA hP hD hS [12, 13, 14, 15, 16, 17, 18] [0, 1, 2, 3, 4, 5, 6, 7, 8, 9, 10, 11, 19] rfl rfl (by decide) (by decide) (by decide) (va_recv hX.1 hP (ci := 4) (q0 := 12) rfl rfl) rfl hl.1 rfl (Nat.le_of_ble_eq_true rfl) d_law_293 hcs (fun H locs hP hD hS => ?_)
        have hP : va_P D vwCl (lwW ad cd d bd ce ((mByt st x1 x2).2) aO cO f) H := hP.sub [0, 1, 2, 3, 4, 5, 6, 7, 8, 9, 10, 11, 13, 14, 15, 16, 17, 18, 19, 12] rfl
        have hD : va_D (fun q : Nat => s.heap.size ≤ q) (lwW ad cd d bd ce ((mByt st x1 x2).2) aO cO f) := hD.sub [0, 1, 2, 3, 4, 5, 6, 7, 8, 9, 10, 11, 13, 14, 15, 16, 17, 18, 19, 12] (by decide) rfl
        refine lv_icmp_eq (tgt := 301) hx hb d_law_296 (by decide) (fun c_e => ?_) (fun c_e => ?_)
        · exact k301 ad cd d ((mByt st x1 x2).2) f H locs ls _ _ (by omega) (by omega) (Rel.mono hq.2 (by omega)) hX hP hD hS (lv_sub hl [0, 1, 2, 3, 4] rfl)
        · exact absurd (by rw [hq.1]) c_e
      refine lv_tableOut (tgt := 301) hx hb d_law_39 (tb05 h_0 h_1 h_2 h_3 h_4 h_5) (by decide) ?_
      exact k301 ad cd d st f H locs ls _ _ (by omega) (by omega) (Rel.mono hR (by omega)) hX hP hD hS hl
