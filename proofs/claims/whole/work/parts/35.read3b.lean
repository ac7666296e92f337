variable {l : Launch} {D : va_G} {ad : Nat → Nat} {cd : Nat → ClassId} {adK adV : Nat → Nat} {tF : Nat} {T : TX} {tys : List (ClassId × FieldType)}

set_option maxHeartbeats 4000000 in
set_option maxRecDepth 100000 in
theorem c_Reader_readLength (hT : T.2 ≤ 300) (st : RS)  : hx_Mz l D (tyH cd) adK adV tF (rdW ad cd T) y_Reader_readLength w_Reader_readLength (rmD 4) [.ref (ad 0)] st ((fLen T st).1) ((fLen T st).2) := by
  refine hx_Mz.of (cc := b_Reader_readLength) (maxL := 1) (by decide) rfl (Nat.le_of_ble_eq_true rfl) ?_
  intro p e s m below meth c A Q ls hI hX hA hP hD hS hl hret
  obtain ⟨hx, hb, hml, hown, hts⟩ := id hI
  have hts : ∀ w ∈ aw, w.before ([.ref (ad 0)] : List Value).toArray s = true := fun w h => hts w (List.mem_cons_of_mem _ h)
  have hown : s.vm.findClass "HeadDesk$Reader" = some m.cls := hown
  have hI : hx_In p s m ([.ref (ad 0)] : List Value).toArray c b_Reader_readLength 1 "HeadDesk$Reader" aw := ⟨hx, hb, hml, hown, hts⟩
  have hP : va_P D vwCl (rdW ad cd T st) s.heap := hP
  obtain ⟨H, hH⟩ : ∃ H, H = s.heap := ⟨_, rfl⟩
  obtain ⟨locs, hlo⟩ : ∃ locs : List Loc, locs = [] := ⟨_, rfl⟩
  have hS : va_S A s.heap H locs := by rw [hH, hlo]; exact hS
  have hP : va_P D vwCl (rdW ad cd T st) H := by rw [hH]; exact hP
  have hl : lv_has ls 1 [(0, .ref (ad 0))] := hl
  have goal : W p l e (rmD 4) s m ([.ref (ad 0)] : List Value).toArray below meth c H locs 0 0 Q (F0 m 0 ls []) := by
    refine lv_aload_n hx hb d_Reader_readLength_0 rfl (lv_at hl 0 rfl) ?_
    refine lv_sipush (v := 255) hx hb d_Reader_readLength_1 (by decide) ?_
    refine hx_Vz (wr := []) (As := [.int 255]) (rest := []) hI (c_Reader_takeNumber hT st 255) (cw_V (C := "HeadDesk$Reader") 1 hts m_2_101 m_2_103 ms_9 m_1_2 m_2_104 (by decide +kernel) ⟨by decide, by decide⟩) hX hA hP hD hS [0, 1, 2, 3, 4, 5, 6, 7] [] rfl rfl (by decide) (by decide) (by decide) (va_recv hX.1 hP (ci := 1) (q0 := 0) rfl rfl) rfl hl.1 rfl (Nat.le_of_ble_eq_true rfl) d_Reader_readLength_4 ⟨Nat.zero_le _, Nat.zero_le _⟩ (fun H locs hP hD hS => ?_)
    obtain ⟨s_4, e_4⟩ : ∃ z : RS, z = (fNum T st 255).2 := ⟨_, rfl⟩
    have hP : va_P D vwCl (rdW ad cd T s_4) H := by rw [e_4]; exact hP
    have hD : va_D A (rdW ad cd T s_4) := by rw [e_4]; exact hD
    refine lv_if_ne (tgt := 12) hx hb d_Reader_readLength_7 (by decide) (fun c_7 => ?_) (fun c_7 => ?_)
    · skip
      have c_7 : ((fNum T st 255).1) = true := bI_1 c_7
      refine lv_aload_n hx hb d_Reader_readLength_12 rfl (lv_at hl 0 rfl) ?_
      refine va_get (D := D) (ci := 1) (v := .ref (ad 5)) (C := "HeadDesk$Reader") (T := F_Reader) (N := 11) hx hb hts a_Reader hown hX.1 hP 0 rfl rfl 3 (by decide) (hts _ m_1_64) (fun _ h9 => h9) rfl d_Reader_readLength_13 ?_
      refine lv_bipush (v := 8) hx hb d_Reader_readLength_16 (by decide) ?_
      refine lv_aload_n hx hb d_Reader_readLength_18 rfl (lv_at hl 0 rfl) ?_
      refine va_get (D := D) (ci := 1) (v := .int (rNb s_4)) (C := "HeadDesk$Reader") (T := F_Reader) (N := 11) hx hb hts a_Reader hown hX.1 hP 0 rfl rfl 8 (by decide) (hts _ m_1_69) (fun _ h9 => h9) rfl d_Reader_readLength_19 ?_
      refine hx_Vv (wr := [(ad 0, .inr (1, [.ref (ad 1), .ref (ad 3), .ref (ad 4), .ref (ad 5), .int (rNm s_4), .int (rKd s_4), .int (rPl s_4), .int (rSk s_4), .int (rNb s_4), .int (rWs s_4), .int (rWe s_4)])), (ad 1, .inr (2, [.ref (ad 2), .int (T.2)])), (ad 2, .inl (cd 0, 300, .inl T.1)), (ad 3, .inl (cd 1, 100, .inl (rNs s_4))), (ad 4, .inl (cd 2, 100, .inl (rNe s_4)))]) (As := [.int 8, .int (rNb s_4)]) (rest := []) hI (c_Head_set (ah := ad 5) (av := ad 6) (ar := ad 7) (cv := cd 3) (cr := cd 4) (tv := 3) (tr := 4) rfl rfl (rVs s_4, rVr s_4) 8 (rNb s_4)) (cw_V (C := "HeadDesk$Head") 2 hts m_2_22 m_2_23 m_2_24 m_1_4 m_2_25 (by decide +kernel) ⟨by decide, by decide⟩) hX hA hP hD hS [5, 6, 7] [0, 1, 2, 3, 4] rfl rfl (by decide) (by decide) (by decide) (va_recv hX.1 hP (ci := 0) (q0 := 5) rfl rfl) rfl hl.1 rfl (Nat.le_of_ble_eq_true rfl) d_Reader_readLength_22 ⟨Nat.zero_le _, Nat.zero_le _⟩ (fun H locs hP hD hS => ?_)
      obtain ⟨s_22, e_22⟩ : ∃ z : RS, z = sVs s_4 (hSet (rVs s_4) 8 (rNb s_4)) := ⟨_, rfl⟩
      have hP : va_P D vwCl (rdW ad cd T s_22) H := by rw [e_22]; exact hP.sub [0, 1, 2, 3, 4, 5, 6, 7] rfl
      have hD : va_D A (rdW ad cd T s_22) := by rw [e_22]; exact hD.sub [0, 1, 2, 3, 4, 5, 6, 7] (by decide) rfl
      refine lv_iconst (v := 1) hx hb d_Reader_readLength_25 (by decide) ?_
      exact hret H locs s_22 true _ _ hP hD hS (pr2 (by first | (simp only [fLen, c_7, bnd_t c_7, ← e_4, ← e_22, fStop, if_true, if_false, Bool.false_eq_true, ↓reduceIte]; done) | (simp only [fLen, c_7, bnd_t c_7, ← e_4, ← e_22, fStop, if_true, if_false, Bool.false_eq_true, ↓reduceIte]; with_reducible rfl) | (simp only [fLen, c_7, bnd_t c_7, ← e_4, ← e_22, fStop, if_true, if_false, Bool.false_eq_true, ↓reduceIte]; rw [e_22]))) d_Reader_readLength_26
    · skip
      have c_7 : ((fNum T st 255).1) = false := bI_0 c_7
      refine lv_iconst (v := 0) hx hb d_Reader_readLength_10 (by decide) ?_
      exact hret H locs s_4 false _ _ hP hD hS (pr2 (by first | (simp only [fLen, c_7, bnd_f c_7, ← e_4, fStop, if_true, if_false, Bool.false_eq_true, ↓reduceIte]; done) | (simp only [fLen, c_7, bnd_f c_7, ← e_4, fStop, if_true, if_false, Bool.false_eq_true, ↓reduceIte]; with_reducible rfl) | (simp only [fLen, c_7, bnd_f c_7, ← e_4, fStop, if_true, if_false, Bool.false_eq_true, ↓reduceIte]; rw [e_4]))) d_Reader_readLength_11
  rw [hH, hlo] at goal
  exact goal
set_option maxHeartbeats 4000000 in
set_option maxRecDepth 100000 in
theorem c_Reader_readTarget (hT : T.2 ≤ 300) (st : RS)  : hx_Mz l D (tyH cd) adK adV tF (rdW ad cd T) y_Reader_readTarget w_Reader_readTarget (rmD 4) [.ref (ad 0)] st ((fTgt T st).1) ((fTgt T st).2) := by
  refine hx_Mz.of (cc := b_Reader_readTarget) (maxL := 1) (by decide) rfl (Nat.le_of_ble_eq_true rfl) ?_
  intro p e s m below meth c A Q ls hI hX hA hP hD hS hl hret
  obtain ⟨hx, hb, hml, hown, hts⟩ := id hI
  have hts : ∀ w ∈ aw, w.before ([.ref (ad 0)] : List Value).toArray s = true := fun w h => hts w (List.mem_cons_of_mem _ h)
  have hown : s.vm.findClass "HeadDesk$Reader" = some m.cls := hown
  have hI : hx_In p s m ([.ref (ad 0)] : List Value).toArray c b_Reader_readTarget 1 "HeadDesk$Reader" aw := ⟨hx, hb, hml, hown, hts⟩
  have hP : va_P D vwCl (rdW ad cd T st) s.heap := hP
  obtain ⟨H, hH⟩ : ∃ H, H = s.heap := ⟨_, rfl⟩
  obtain ⟨locs, hlo⟩ : ∃ locs : List Loc, locs = [] := ⟨_, rfl⟩
  have hS : va_S A s.heap H locs := by rw [hH, hlo]; exact hS
  have hP : va_P D vwCl (rdW ad cd T st) H := by rw [hH]; exact hP
  have hl : lv_has ls 1 [(0, .ref (ad 0))] := hl
  have goal : W p l e (rmD 4) s m ([.ref (ad 0)] : List Value).toArray below meth c H locs 0 0 Q (F0 m 0 ls []) := by
    refine lv_aload_n hx hb d_Reader_readTarget_0 rfl (lv_at hl 0 rfl) ?_
    refine lv_bipush (v := 31) hx hb d_Reader_readTarget_1 (by decide) ?_
    refine hx_Vz (wr := []) (As := [.int 31]) (rest := []) hI (c_Reader_takeNumber hT st 31) (cw_V (C := "HeadDesk$Reader") 1 hts m_2_101 m_2_103 ms_9 m_1_2 m_2_104 (by decide +kernel) ⟨by decide, by decide⟩) hX hA hP hD hS [0, 1, 2, 3, 4, 5, 6, 7] [] rfl rfl (by decide) (by decide) (by decide) (va_recv hX.1 hP (ci := 1) (q0 := 0) rfl rfl) rfl hl.1 rfl (Nat.le_of_ble_eq_true rfl) d_Reader_readTarget_3 ⟨Nat.zero_le _, Nat.zero_le _⟩ (fun H locs hP hD hS => ?_)
    obtain ⟨s_3, e_3⟩ : ∃ z : RS, z = (fNum T st 31).2 := ⟨_, rfl⟩
    have hP : va_P D vwCl (rdW ad cd T s_3) H := by rw [e_3]; exact hP
    have hD : va_D A (rdW ad cd T s_3) := by rw [e_3]; exact hD
    refine lv_if_ne (tgt := 11) hx hb d_Reader_readTarget_6 (by decide) (fun c_6 => ?_) (fun c_6 => ?_)
    · skip
      have c_6 : ((fNum T st 31).1) = true := bI_1 c_6
      refine lv_aload_n hx hb d_Reader_readTarget_11 rfl (lv_at hl 0 rfl) ?_
      refine va_get (D := D) (ci := 1) (v := .ref (ad 5)) (C := "HeadDesk$Reader") (T := F_Reader) (N := 11) hx hb hts a_Reader hown hX.1 hP 0 rfl rfl 3 (by decide) (hts _ m_1_64) (fun _ h9 => h9) rfl d_Reader_readTarget_12 ?_
      refine lv_iconst (v := 1) hx hb d_Reader_readTarget_15 (by decide) ?_
      refine lv_aload_n hx hb d_Reader_readTarget_16 rfl (lv_at hl 0 rfl) ?_
      refine va_get (D := D) (ci := 1) (v := .int (rNb s_3)) (C := "HeadDesk$Reader") (T := F_Reader) (N := 11) hx hb hts a_Reader hown hX.1 hP 0 rfl rfl 8 (by decide) (hts _ m_1_69) (fun _ h9 => h9) rfl d_Reader_readTarget_17 ?_
      refine hx_Vv (wr := [(ad 0, .inr (1, [.ref (ad 1), .ref (ad 3), .ref (ad 4), .ref (ad 5), .int (rNm s_3), .int (rKd s_3), .int (rPl s_3), .int (rSk s_3), .int (rNb s_3), .int (rWs s_3), .int (rWe s_3)])), (ad 1, .inr (2, [.ref (ad 2), .int (T.2)])), (ad 2, .inl (cd 0, 300, .inl T.1)), (ad 3, .inl (cd 1, 100, .inl (rNs s_3))), (ad 4, .inl (cd 2, 100, .inl (rNe s_3)))]) (As := [.int 1, .int (rNb s_3)]) (rest := []) hI (c_Head_set (ah := ad 5) (av := ad 6) (ar := ad 7) (cv := cd 3) (cr := cd 4) (tv := 3) (tr := 4) rfl rfl (rVs s_3, rVr s_3) 1 (rNb s_3)) (cw_V (C := "HeadDesk$Head") 2 hts m_2_22 m_2_23 m_2_24 m_1_4 m_2_25 (by decide +kernel) ⟨by decide, by decide⟩) hX hA hP hD hS [5, 6, 7] [0, 1, 2, 3, 4] rfl rfl (by decide) (by decide) (by decide) (va_recv hX.1 hP (ci := 0) (q0 := 5) rfl rfl) rfl hl.1 rfl (Nat.le_of_ble_eq_true rfl) d_Reader_readTarget_20 ⟨Nat.zero_le _, Nat.zero_le _⟩ (fun H locs hP hD hS => ?_)
      obtain ⟨s_20, e_20⟩ : ∃ z : RS, z = sVs s_3 (hSet (rVs s_3) 1 (rNb s_3)) := ⟨_, rfl⟩
      have hP : va_P D vwCl (rdW ad cd T s_20) H := by rw [e_20]; exact hP.sub [0, 1, 2, 3, 4, 5, 6, 7] rfl
      have hD : va_D A (rdW ad cd T s_20) := by rw [e_20]; exact hD.sub [0, 1, 2, 3, 4, 5, 6, 7] (by decide) rfl
      refine lv_aload_n hx hb d_Reader_readTarget_23 rfl (lv_at hl 0 rfl) ?_
      refine va_get (D := D) (ci := 1) (v := .int (rKd s_20)) (C := "HeadDesk$Reader") (T := F_Reader) (N := 11) hx hb hts a_Reader hown hX.1 hP 0 rfl rfl 5 (by decide) (hts _ m_1_66) (fun _ h9 => h9) rfl d_Reader_readTarget_24 ?_
      refine lv_iconst (v := 1) hx hb d_Reader_readTarget_27 (by decide) ?_
      refine lv_icmp_eq (tgt := 40) hx hb d_Reader_readTarget_28 (by decide) (fun c_28 => ?_) (fun c_28 => ?_)
      · skip
        have c_28 : (rKd s_20 = 1) := c_28
        refine lv_iconst (v := 1) hx hb d_Reader_readTarget_40 (by decide) ?_
        exact hret H locs s_20 true _ _ hP hD hS (pr2 (by first | (simp only [fTgt, fTgtE, c_6, if_pos c_28, bnd_t c_6, ← e_3, ← e_20, fStop, if_true, if_false, Bool.false_eq_true, ↓reduceIte]; done) | (simp only [fTgt, fTgtE, c_6, if_pos c_28, bnd_t c_6, ← e_3, ← e_20, fStop, if_true, if_false, Bool.false_eq_true, ↓reduceIte]; with_reducible rfl) | (simp only [fTgt, fTgtE, c_6, if_pos c_28, bnd_t c_6, ← e_3, ← e_20, fStop, if_true, if_false, Bool.false_eq_true, ↓reduceIte]; rw [e_20]))) d_Reader_readTarget_41
      · skip
        have c_28 : ¬ (rKd s_20 = 1) := c_28
        refine lv_aload_n hx hb d_Reader_readTarget_31 rfl (lv_at hl 0 rfl) ?_
        refine lv_bipush (v := 47) hx hb d_Reader_readTarget_32 (by decide) ?_
        refine hx_Vz (wr := []) (As := [.int 47]) (rest := []) hI (c_Reader_skip hT s_20 47) (cw_V (C := "HeadDesk$Reader") 1 hts m_2_108 m_2_110 ms_10 m_1_2 m_2_111 (by decide +kernel) ⟨by decide, by decide⟩) hX hA hP hD hS [0, 1, 2, 3, 4, 5, 6, 7] [] rfl rfl (by decide) (by decide) (by decide) (va_recv hX.1 hP (ci := 1) (q0 := 0) rfl rfl) rfl hl.1 rfl (Nat.le_of_ble_eq_true rfl) d_Reader_readTarget_34 ⟨Nat.zero_le _, Nat.zero_le _⟩ (fun H locs hP hD hS => ?_)
        obtain ⟨s_34, e_34⟩ : ∃ z : RS, z = (fSkip T s_20 47).2 := ⟨_, rfl⟩
        have hP : va_P D vwCl (rdW ad cd T s_34) H := by rw [e_34]; exact hP
        have hD : va_D A (rdW ad cd T s_34) := by rw [e_34]; exact hD
        refine lv_if_ne (tgt := 42) hx hb d_Reader_readTarget_37 (by decide) (fun c_37 => ?_) (fun c_37 => ?_)
        · skip
          have c_37 : ((fSkip T s_20 47).1) = true := bI_1 c_37
          refine lv_aload_n hx hb d_Reader_readTarget_42 rfl (lv_at hl 0 rfl) ?_
          refine lv_iconst (v := 3) hx hb d_Reader_readTarget_43 (by decide) ?_
          refine hx_Vz (wr := []) (As := [.int 3]) (rest := []) hI (c_Reader_takeNumber hT s_34 3) (cw_V (C := "HeadDesk$Reader") 1 hts m_2_101 m_2_103 ms_9 m_1_2 m_2_104 (by decide +kernel) ⟨by decide, by decide⟩) hX hA hP hD hS [0, 1, 2, 3, 4, 5, 6, 7] [] rfl rfl (by decide) (by decide) (by decide) (va_recv hX.1 hP (ci := 1) (q0 := 0) rfl rfl) rfl hl.1 rfl (Nat.le_of_ble_eq_true rfl) d_Reader_readTarget_44 ⟨Nat.zero_le _, Nat.zero_le _⟩ (fun H locs hP hD hS => ?_)
          obtain ⟨s_44, e_44⟩ : ∃ z : RS, z = (fNum T s_34 3).2 := ⟨_, rfl⟩
          have hP : va_P D vwCl (rdW ad cd T s_44) H := by rw [e_44]; exact hP
          have hD : va_D A (rdW ad cd T s_44) := by rw [e_44]; exact hD
          refine lv_if_ne (tgt := 52) hx hb d_Reader_readTarget_47 (by decide) (fun c_47 => ?_) (fun c_47 => ?_)
          · skip
            have c_47 : ((fNum T s_34 3).1) = true := bI_1 c_47
            refine lv_aload_n hx hb d_Reader_readTarget_52 rfl (lv_at hl 0 rfl) ?_
            refine va_get (D := D) (ci := 1) (v := .ref (ad 5)) (C := "HeadDesk$Reader") (T := F_Reader) (N := 11) hx hb hts a_Reader hown hX.1 hP 0 rfl rfl 3 (by decide) (hts _ m_1_64) (fun _ h9 => h9) rfl d_Reader_readTarget_53 ?_
            refine lv_iconst (v := 2) hx hb d_Reader_readTarget_56 (by decide) ?_
            refine lv_aload_n hx hb d_Reader_readTarget_57 rfl (lv_at hl 0 rfl) ?_
            refine va_get (D := D) (ci := 1) (v := .int (rNb s_44)) (C := "HeadDesk$Reader") (T := F_Reader) (N := 11) hx hb hts a_Reader hown hX.1 hP 0 rfl rfl 8 (by decide) (hts _ m_1_69) (fun _ h9 => h9) rfl d_Reader_readTarget_58 ?_
            refine hx_Vv (wr := [(ad 0, .inr (1, [.ref (ad 1), .ref (ad 3), .ref (ad 4), .ref (ad 5), .int (rNm s_44), .int (rKd s_44), .int (rPl s_44), .int (rSk s_44), .int (rNb s_44), .int (rWs s_44), .int (rWe s_44)])), (ad 1, .inr (2, [.ref (ad 2), .int (T.2)])), (ad 2, .inl (cd 0, 300, .inl T.1)), (ad 3, .inl (cd 1, 100, .inl (rNs s_44))), (ad 4, .inl (cd 2, 100, .inl (rNe s_44)))]) (As := [.int 2, .int (rNb s_44)]) (rest := []) hI (c_Head_set (ah := ad 5) (av := ad 6) (ar := ad 7) (cv := cd 3) (cr := cd 4) (tv := 3) (tr := 4) rfl rfl (rVs s_44, rVr s_44) 2 (rNb s_44)) (cw_V (C := "HeadDesk$Head") 2 hts m_2_22 m_2_23 m_2_24 m_1_4 m_2_25 (by decide +kernel) ⟨by decide, by decide⟩) hX hA hP hD hS [5, 6, 7] [0, 1, 2, 3, 4] rfl rfl (by decide) (by decide) (by decide) (va_recv hX.1 hP (ci := 0) (q0 := 5) rfl rfl) rfl hl.1 rfl (Nat.le_of_ble_eq_true rfl) d_Reader_readTarget_61 ⟨Nat.zero_le _, Nat.zero_le _⟩ (fun H locs hP hD hS => ?_)
            obtain ⟨s_61, e_61⟩ : ∃ z : RS, z = sVs s_44 (hSet (rVs s_44) 2 (rNb s_44)) := ⟨_, rfl⟩
            have hP : va_P D vwCl (rdW ad cd T s_61) H := by rw [e_61]; exact hP.sub [0, 1, 2, 3, 4, 5, 6, 7] rfl
            have hD : va_D A (rdW ad cd T s_61) := by rw [e_61]; exact hD.sub [0, 1, 2, 3, 4, 5, 6, 7] (by decide) rfl
            refine lv_iconst (v := 1) hx hb d_Reader_readTarget_64 (by decide) ?_
            exact hret H locs s_61 true _ _ hP hD hS (pr2 (by first | (simp only [fTgt, fTgtE, c_6, if_neg c_28, c_37, c_47, bnd_t c_6, bnd_t c_37, bnd_t c_47, ← e_3, ← e_20, ← e_34, ← e_44, ← e_61, fStop, if_true, if_false, Bool.false_eq_true, ↓reduceIte]; done) | (simp only [fTgt, fTgtE, c_6, if_neg c_28, c_37, c_47, bnd_t c_6, bnd_t c_37, bnd_t c_47, ← e_3, ← e_20, ← e_34, ← e_44, ← e_61, fStop, if_true, if_false, Bool.false_eq_true, ↓reduceIte]; with_reducible rfl) | (simp only [fTgt, fTgtE, c_6, if_neg c_28, c_37, c_47, bnd_t c_6, bnd_t c_37, bnd_t c_47, ← e_3, ← e_20, ← e_34, ← e_44, ← e_61, fStop, if_true, if_false, Bool.false_eq_true, ↓reduceIte]; rw [e_61]))) d_Reader_readTarget_65
          · skip
            have c_47 : ((fNum T s_34 3).1) = false := bI_0 c_47
            refine lv_iconst (v := 0) hx hb d_Reader_readTarget_50 (by decide) ?_
            exact hret H locs s_44 false _ _ hP hD hS (pr2 (by first | (simp only [fTgt, fTgtE, c_6, if_neg c_28, c_37, c_47, bnd_t c_6, bnd_t c_37, bnd_f c_47, ← e_3, ← e_20, ← e_34, ← e_44, fStop, if_true, if_false, Bool.false_eq_true, ↓reduceIte]; done) | (simp only [fTgt, fTgtE, c_6, if_neg c_28, c_37, c_47, bnd_t c_6, bnd_t c_37, bnd_f c_47, ← e_3, ← e_20, ← e_34, ← e_44, fStop, if_true, if_false, Bool.false_eq_true, ↓reduceIte]; with_reducible rfl) | (simp only [fTgt, fTgtE, c_6, if_neg c_28, c_37, c_47, bnd_t c_6, bnd_t c_37, bnd_f c_47, ← e_3, ← e_20, ← e_34, ← e_44, fStop, if_true, if_false, Bool.false_eq_true, ↓reduceIte]; rw [e_44]))) d_Reader_readTarget_51
        · skip
          have c_37 : ((fSkip T s_20 47).1) = false := bI_0 c_37
          refine lv_iconst (v := 1) hx hb d_Reader_readTarget_40 (by decide) ?_
          exact hret H locs s_34 true _ _ hP hD hS (pr2 (by first | (simp only [fTgt, fTgtE, c_6, if_neg c_28, c_37, bnd_t c_6, bnd_f c_37, ← e_3, ← e_20, ← e_34, fStop, if_true, if_false, Bool.false_eq_true, ↓reduceIte]; done) | (simp only [fTgt, fTgtE, c_6, if_neg c_28, c_37, bnd_t c_6, bnd_f c_37, ← e_3, ← e_20, ← e_34, fStop, if_true, if_false, Bool.false_eq_true, ↓reduceIte]; with_reducible rfl) | (simp only [fTgt, fTgtE, c_6, if_neg c_28, c_37, bnd_t c_6, bnd_f c_37, ← e_3, ← e_20, ← e_34, fStop, if_true, if_false, Bool.false_eq_true, ↓reduceIte]; rw [e_34]))) d_Reader_readTarget_41
    · skip
      have c_6 : ((fNum T st 31).1) = false := bI_0 c_6
      refine lv_iconst (v := 0) hx hb d_Reader_readTarget_9 (by decide) ?_
      exact hret H locs s_3 false _ _ hP hD hS (pr2 (by first | (simp only [fTgt, fTgtE, c_6, bnd_f c_6, ← e_3, fStop, if_true, if_false, Bool.false_eq_true, ↓reduceIte]; done) | (simp only [fTgt, fTgtE, c_6, bnd_f c_6, ← e_3, fStop, if_true, if_false, Bool.false_eq_true, ↓reduceIte]; with_reducible rfl) | (simp only [fTgt, fTgtE, c_6, bnd_f c_6, ← e_3, fStop, if_true, if_false, Bool.false_eq_true, ↓reduceIte]; rw [e_3]))) d_Reader_readTarget_10
  rw [hH, hlo] at goal
  exact goal
set_option maxHeartbeats 4000000 in
set_option maxRecDepth 100000 in
theorem c_Reader_readVerb (hT : T.2 ≤ 300) (st : RS)  : hx_Mz l D (tyH cd) adK adV tF (rdW ad cd T) y_Reader_readVerb w_Reader_readVerb (rmD 6) [.ref (ad 0)] st ((fVerb T st).1) ((fVerb T st).2) := by
  refine hx_Mz.of (cc := b_Reader_readVerb) (maxL := 1) (by decide) rfl (Nat.le_of_ble_eq_true rfl) ?_
  intro p e s m below meth c A Q ls hI hX hA hP hD hS hl hret
  obtain ⟨hx, hb, hml, hown, hts⟩ := id hI
  have hts : ∀ w ∈ aw, w.before ([.ref (ad 0)] : List Value).toArray s = true := fun w h => hts w (List.mem_cons_of_mem _ h)
  have hown : s.vm.findClass "HeadDesk$Reader" = some m.cls := hown
  have hI : hx_In p s m ([.ref (ad 0)] : List Value).toArray c b_Reader_readVerb 1 "HeadDesk$Reader" aw := ⟨hx, hb, hml, hown, hts⟩
  have hP : va_P D vwCl (rdW ad cd T st) s.heap := hP
  obtain ⟨H, hH⟩ : ∃ H, H = s.heap := ⟨_, rfl⟩
  obtain ⟨locs, hlo⟩ : ∃ locs : List Loc, locs = [] := ⟨_, rfl⟩
  have hS : va_S A s.heap H locs := by rw [hH, hlo]; exact hS
  have hP : va_P D vwCl (rdW ad cd T st) H := by rw [hH]; exact hP
  have hl : lv_has ls 1 [(0, .ref (ad 0))] := hl
  have goal : W p l e (rmD 6) s m ([.ref (ad 0)] : List Value).toArray below meth c H locs 0 0 Q (F0 m 0 ls []) := by
    refine lv_aload_n hx hb d_Reader_readVerb_0 rfl (lv_at hl 0 rfl) ?_
    refine va_get (D := D) (ci := 1) (v := .int (rKd st)) (C := "HeadDesk$Reader") (T := F_Reader) (N := 11) hx hb hts a_Reader hown hX.1 hP 0 rfl rfl 5 (by decide) (hts _ m_1_66) (fun _ h9 => h9) rfl d_Reader_readVerb_1 ?_
    refine lv_iconst (v := 1) hx hb d_Reader_readVerb_4 (by decide) ?_
    refine lv_icmp_ne (tgt := 24) hx hb d_Reader_readVerb_5 (by decide) (fun c_5 => ?_) (fun c_5 => ?_)
    · skip
      have c_5 : ¬ (rKd st = 1) := c_5
      refine lv_aload_n hx hb d_Reader_readVerb_24 rfl (lv_at hl 0 rfl) ?_
      refine hx_Vi (wr := []) (As := []) (rest := []) hI (c_Reader_mark hT st ) (cw_V (C := "HeadDesk$Reader") 0 hts m_2_41 m_2_43 ms_5 m_1_2 m_2_44 (by decide +kernel) ⟨by decide, by decide⟩) hX hA hP hD hS [0, 1, 2, 3, 4, 5, 6, 7] [] rfl rfl (by decide) (by decide) (by decide) (va_recv hX.1 hP (ci := 1) (q0 := 0) rfl rfl) rfl hl.1 rfl (Nat.le_of_ble_eq_true rfl) d_Reader_readVerb_25 ⟨Nat.zero_le _, Nat.zero_le _⟩ (fun H locs hP hD hS => ?_)
      have hP : va_P D vwCl (rdW ad cd T st) H := hP
      have hD : va_D A (rdW ad cd T st) := hD
      refine lv_bipush (v := 72) hx hb d_Reader_readVerb_28 (by decide) ?_
      refine lv_icmp_ne (tgt := 49) hx hb d_Reader_readVerb_30 (by decide) (fun c_30 => ?_) (fun c_30 => ?_)
      · skip
        have c_30 : ¬ (fMark T st = 72) := c_30
        refine lv_aload_n hx hb d_Reader_readVerb_49 rfl (lv_at hl 0 rfl) ?_
        refine va_get (D := D) (ci := 1) (v := .ref (ad 5)) (C := "HeadDesk$Reader") (T := F_Reader) (N := 11) hx hb hts a_Reader hown hX.1 hP 0 rfl rfl 3 (by decide) (hts _ m_1_64) (fun _ h9 => h9) rfl d_Reader_readVerb_50 ?_
        refine lv_iconst (v := 0) hx hb d_Reader_readVerb_53 (by decide) ?_
        refine lv_iconst (v := 1) hx hb d_Reader_readVerb_54 (by decide) ?_
        refine hx_Vv (wr := [(ad 0, .inr (1, [.ref (ad 1), .ref (ad 3), .ref (ad 4), .ref (ad 5), .int (rNm st), .int (rKd st), .int (rPl st), .int (rSk st), .int (rNb st), .int (rWs st), .int (rWe st)])), (ad 1, .inr (2, [.ref (ad 2), .int (T.2)])), (ad 2, .inl (cd 0, 300, .inl T.1)), (ad 3, .inl (cd 1, 100, .inl (rNs st))), (ad 4, .inl (cd 2, 100, .inl (rNe st)))]) (As := [.int 0, .int 1]) (rest := []) hI (c_Head_set (ah := ad 5) (av := ad 6) (ar := ad 7) (cv := cd 3) (cr := cd 4) (tv := 3) (tr := 4) rfl rfl (rVs st, rVr st) 0 1) (cw_V (C := "HeadDesk$Head") 2 hts m_2_22 m_2_23 m_2_24 m_1_4 m_2_25 (by decide +kernel) ⟨by decide, by decide⟩) hX hA hP hD hS [5, 6, 7] [0, 1, 2, 3, 4] rfl rfl (by decide) (by decide) (by decide) (va_recv hX.1 hP (ci := 0) (q0 := 5) rfl rfl) rfl hl.1 rfl (Nat.le_of_ble_eq_true rfl) d_Reader_readVerb_55 ⟨Nat.zero_le _, Nat.zero_le _⟩ (fun H locs hP hD hS => ?_)
        obtain ⟨s_55, e_55⟩ : ∃ z : RS, z = sVs st (hSet (rVs st) 0 1) := ⟨_, rfl⟩
        have hP : va_P D vwCl (rdW ad cd T s_55) H := by rw [e_55]; exact hP.sub [0, 1, 2, 3, 4, 5, 6, 7] rfl
        have hD : va_D A (rdW ad cd T s_55) := by rw [e_55]; exact hD.sub [0, 1, 2, 3, 4, 5, 6, 7] (by decide) rfl
        refine lv_aload_n hx hb d_Reader_readVerb_58 rfl (lv_at hl 0 rfl) ?_
        refine va_ldcS hx hb hown (hX.2.2.2.2.2.1 _ _ _ _ st_3) d_Reader_readVerb_59 ?_
        refine hx_Vz (wr := []) (As := [.ref (adK 3)]) (rest := []) hI (c_Reader_takeAllL hT s_55 (by decide) sw_3) (cw_V (C := "HeadDesk$Reader") 1 hts m_2_27 m_2_29 ms_4 m_1_2 m_2_30 (by decide +kernel) ⟨by decide, by decide⟩) hX hA hP hD hS [0, 1, 2, 3, 4, 5, 6, 7] [] rfl rfl (by decide) (by decide) (by decide) (va_recv hX.1 hP (ci := 1) (q0 := 0) rfl rfl) rfl hl.1 rfl (Nat.le_of_ble_eq_true rfl) d_Reader_readVerb_61 ⟨Nat.zero_le _, Nat.zero_le _⟩ (fun H locs hP hD hS => ?_)
        obtain ⟨s_61, e_61⟩ : ∃ z : RS, z = (fAll T t_GET s_55).2 := ⟨_, rfl⟩
        have hP : va_P D vwCl (rdW ad cd T s_61) H := by rw [e_61]; exact hP
        have hD : va_D A (rdW ad cd T s_61) := by rw [e_61]; exact hD
        exact hret H locs s_61 ((fAll T t_GET s_55).1) _ _ hP hD hS (pr2 (by first | (simp only [fVerb, if_neg c_5, if_neg c_30, ← e_55, ← e_61, fStop, if_true, if_false, Bool.false_eq_true, ↓reduceIte]; done) | (simp only [fVerb, if_neg c_5, if_neg c_30, ← e_55, ← e_61, fStop, if_true, if_false, Bool.false_eq_true, ↓reduceIte]; with_reducible rfl) | (simp only [fVerb, if_neg c_5, if_neg c_30, ← e_55, ← e_61, fStop, if_true, if_false, Bool.false_eq_true, ↓reduceIte]; rw [e_61]))) d_Reader_readVerb_64
      · skip
        have c_30 : (fMark T st = 72) := c_30
        refine lv_aload_n hx hb d_Reader_readVerb_33 rfl (lv_at hl 0 rfl) ?_
        refine va_get (D := D) (ci := 1) (v := .ref (ad 5)) (C := "HeadDesk$Reader") (T := F_Reader) (N := 11) hx hb hts a_Reader hown hX.1 hP 0 rfl rfl 3 (by decide) (hts _ m_1_64) (fun _ h9 => h9) rfl d_Reader_readVerb_34 ?_
        refine lv_iconst (v := 0) hx hb d_Reader_readVerb_37 (by decide) ?_
        refine lv_iconst (v := 2) hx hb d_Reader_readVerb_38 (by decide) ?_
        refine hx_Vv (wr := [(ad 0, .inr (1, [.ref (ad 1), .ref (ad 3), .ref (ad 4), .ref (ad 5), .int (rNm st), .int (rKd st), .int (rPl st), .int (rSk st), .int (rNb st), .int (rWs st), .int (rWe st)])), (ad 1, .inr (2, [.ref (ad 2), .int (T.2)])), (ad 2, .inl (cd 0, 300, .inl T.1)), (ad 3, .inl (cd 1, 100, .inl (rNs st))), (ad 4, .inl (cd 2, 100, .inl (rNe st)))]) (As := [.int 0, .int 2]) (rest := []) hI (c_Head_set (ah := ad 5) (av := ad 6) (ar := ad 7) (cv := cd 3) (cr := cd 4) (tv := 3) (tr := 4) rfl rfl (rVs st, rVr st) 0 2) (cw_V (C := "HeadDesk$Head") 2 hts m_2_22 m_2_23 m_2_24 m_1_4 m_2_25 (by decide +kernel) ⟨by decide, by decide⟩) hX hA hP hD hS [5, 6, 7] [0, 1, 2, 3, 4] rfl rfl (by decide) (by decide) (by decide) (va_recv hX.1 hP (ci := 0) (q0 := 5) rfl rfl) rfl hl.1 rfl (Nat.le_of_ble_eq_true rfl) d_Reader_readVerb_39 ⟨Nat.zero_le _, Nat.zero_le _⟩ (fun H locs hP hD hS => ?_)
        obtain ⟨s_39, e_39⟩ : ∃ z : RS, z = sVs st (hSet (rVs st) 0 2) := ⟨_, rfl⟩
        have hP : va_P D vwCl (rdW ad cd T s_39) H := by rw [e_39]; exact hP.sub [0, 1, 2, 3, 4, 5, 6, 7] rfl
        have hD : va_D A (rdW ad cd T s_39) := by rw [e_39]; exact hD.sub [0, 1, 2, 3, 4, 5, 6, 7] (by decide) rfl
        refine lv_aload_n hx hb d_Reader_readVerb_42 rfl (lv_at hl 0 rfl) ?_
        refine va_ldcS hx hb hown (hX.2.2.2.2.2.1 _ _ _ _ st_2) d_Reader_readVerb_43 ?_
        refine hx_Vz (wr := []) (As := [.ref (adK 2)]) (rest := []) hI (c_Reader_takeAllL hT s_39 (by decide) sw_2) (cw_V (C := "HeadDesk$Reader") 1 hts m_2_27 m_2_29 ms_4 m_1_2 m_2_30 (by decide +kernel) ⟨by decide, by decide⟩) hX hA hP hD hS [0, 1, 2, 3, 4, 5, 6, 7] [] rfl rfl (by decide) (by decide) (by decide) (va_recv hX.1 hP (ci := 1) (q0 := 0) rfl rfl) rfl hl.1 rfl (Nat.le_of_ble_eq_true rfl) d_Reader_readVerb_45 ⟨Nat.zero_le _, Nat.zero_le _⟩ (fun H locs hP hD hS => ?_)
        obtain ⟨s_45, e_45⟩ : ∃ z : RS, z = (fAll T t_HEAD s_39).2 := ⟨_, rfl⟩
        have hP : va_P D vwCl (rdW ad cd T s_45) H := by rw [e_45]; exact hP
        have hD : va_D A (rdW ad cd T s_45) := by rw [e_45]; exact hD
        exact hret H locs s_45 ((fAll T t_HEAD s_39).1) _ _ hP hD hS (pr2 (by first | (simp only [fVerb, if_neg c_5, if_pos c_30, ← e_39, ← e_45, fStop, if_true, if_false, Bool.false_eq_true, ↓reduceIte]; done) | (simp only [fVerb, if_neg c_5, if_pos c_30, ← e_39, ← e_45, fStop, if_true, if_false, Bool.false_eq_true, ↓reduceIte]; with_reducible rfl) | (simp only [fVerb, if_neg c_5, if_pos c_30, ← e_39, ← e_45, fStop, if_true, if_false, Bool.false_eq_true, ↓reduceIte]; rw [e_45]))) d_Reader_readVerb_48
    · skip
      have c_5 : (rKd st = 1) := c_5
      refine lv_aload_n hx hb d_Reader_readVerb_8 rfl (lv_at hl 0 rfl) ?_
      refine va_get (D := D) (ci := 1) (v := .ref (ad 5)) (C := "HeadDesk$Reader") (T := F_Reader) (N := 11) hx hb hts a_Reader hown hX.1 hP 0 rfl rfl 3 (by decide) (hts _ m_1_64) (fun _ h9 => h9) rfl d_Reader_readVerb_9 ?_
      refine lv_iconst (v := 0) hx hb d_Reader_readVerb_12 (by decide) ?_
      refine lv_iconst (v := 3) hx hb d_Reader_readVerb_13 (by decide) ?_
      refine hx_Vv (wr := [(ad 0, .inr (1, [.ref (ad 1), .ref (ad 3), .ref (ad 4), .ref (ad 5), .int (rNm st), .int (rKd st), .int (rPl st), .int (rSk st), .int (rNb st), .int (rWs st), .int (rWe st)])), (ad 1, .inr (2, [.ref (ad 2), .int (T.2)])), (ad 2, .inl (cd 0, 300, .inl T.1)), (ad 3, .inl (cd 1, 100, .inl (rNs st))), (ad 4, .inl (cd 2, 100, .inl (rNe st)))]) (As := [.int 0, .int 3]) (rest := []) hI (c_Head_set (ah := ad 5) (av := ad 6) (ar := ad 7) (cv := cd 3) (cr := cd 4) (tv := 3) (tr := 4) rfl rfl (rVs st, rVr st) 0 3) (cw_V (C := "HeadDesk$Head") 2 hts m_2_22 m_2_23 m_2_24 m_1_4 m_2_25 (by decide +kernel) ⟨by decide, by decide⟩) hX hA hP hD hS [5, 6, 7] [0, 1, 2, 3, 4] rfl rfl (by decide) (by decide) (by decide) (va_recv hX.1 hP (ci := 0) (q0 := 5) rfl rfl) rfl hl.1 rfl (Nat.le_of_ble_eq_true rfl) d_Reader_readVerb_14 ⟨Nat.zero_le _, Nat.zero_le _⟩ (fun H locs hP hD hS => ?_)
      obtain ⟨s_14, e_14⟩ : ∃ z : RS, z = sVs st (hSet (rVs st) 0 3) := ⟨_, rfl⟩
      have hP : va_P D vwCl (rdW ad cd T s_14) H := by rw [e_14]; exact hP.sub [0, 1, 2, 3, 4, 5, 6, 7] rfl
      have hD : va_D A (rdW ad cd T s_14) := by rw [e_14]; exact hD.sub [0, 1, 2, 3, 4, 5, 6, 7] (by decide) rfl
      refine lv_aload_n hx hb d_Reader_readVerb_17 rfl (lv_at hl 0 rfl) ?_
      refine va_ldcS hx hb hown (hX.2.2.2.2.2.1 _ _ _ _ st_1) d_Reader_readVerb_18 ?_
      refine hx_Vz (wr := []) (As := [.ref (adK 1)]) (rest := []) hI (c_Reader_takeAllL hT s_14 (by decide) sw_1) (cw_V (C := "HeadDesk$Reader") 1 hts m_2_27 m_2_29 ms_4 m_1_2 m_2_30 (by decide +kernel) ⟨by decide, by decide⟩) hX hA hP hD hS [0, 1, 2, 3, 4, 5, 6, 7] [] rfl rfl (by decide) (by decide) (by decide) (va_recv hX.1 hP (ci := 1) (q0 := 0) rfl rfl) rfl hl.1 rfl (Nat.le_of_ble_eq_true rfl) d_Reader_readVerb_20 ⟨Nat.zero_le _, Nat.zero_le _⟩ (fun H locs hP hD hS => ?_)
      obtain ⟨s_20, e_20⟩ : ∃ z : RS, z = (fAll T t_PUT s_14).2 := ⟨_, rfl⟩
      have hP : va_P D vwCl (rdW ad cd T s_20) H := by rw [e_20]; exact hP
      have hD : va_D A (rdW ad cd T s_20) := by rw [e_20]; exact hD
      exact hret H locs s_20 ((fAll T t_PUT s_14).1) _ _ hP hD hS (pr2 (by first | (simp only [fVerb, if_pos c_5, ← e_14, ← e_20, fStop, if_true, if_false, Bool.false_eq_true, ↓reduceIte]; done) | (simp only [fVerb, if_pos c_5, ← e_14, ← e_20, fStop, if_true, if_false, Bool.false_eq_true, ↓reduceIte]; with_reducible rfl) | (simp only [fVerb, if_pos c_5, ← e_14, ← e_20, fStop, if_true, if_false, Bool.false_eq_true, ↓reduceIte]; rw [e_20]))) d_Reader_readVerb_23
  rw [hH, hlo] at goal
  exact goal
set_option maxHeartbeats 4000000 in
set_option maxRecDepth 100000 in
theorem c_Reader_readFirstLine (hT : T.2 ≤ 300) (st : RS)  : hx_Mz l D (tyH cd) adK adV tF (rdW ad cd T) y_Reader_readFirstLine w_Reader_readFirstLine (rmD 7) [.ref (ad 0)] st ((fFst T st).1) ((fFst T st).2) := by
  refine hx_Mz.of (cc := b_Reader_readFirstLine) (maxL := 1) (by decide) rfl (Nat.le_of_ble_eq_true rfl) ?_
  intro p e s m below meth c A Q ls hI hX hA hP hD hS hl hret
  obtain ⟨hx, hb, hml, hown, hts⟩ := id hI
  have hts : ∀ w ∈ aw, w.before ([.ref (ad 0)] : List Value).toArray s = true := fun w h => hts w (List.mem_cons_of_mem _ h)
  have hown : s.vm.findClass "HeadDesk$Reader" = some m.cls := hown
  have hI : hx_In p s m ([.ref (ad 0)] : List Value).toArray c b_Reader_readFirstLine 1 "HeadDesk$Reader" aw := ⟨hx, hb, hml, hown, hts⟩
  have hP : va_P D vwCl (rdW ad cd T st) s.heap := hP
  obtain ⟨H, hH⟩ : ∃ H, H = s.heap := ⟨_, rfl⟩
  obtain ⟨locs, hlo⟩ : ∃ locs : List Loc, locs = [] := ⟨_, rfl⟩
  have hS : va_S A s.heap H locs := by rw [hH, hlo]; exact hS
  have hP : va_P D vwCl (rdW ad cd T st) H := by rw [hH]; exact hP
  have hl : lv_has ls 1 [(0, .ref (ad 0))] := hl
  have goal : W p l e (rmD 7) s m ([.ref (ad 0)] : List Value).toArray below meth c H locs 0 0 Q (F0 m 0 ls []) := by
    refine lv_aload_n hx hb d_Reader_readFirstLine_0 rfl (lv_at hl 0 rfl) ?_
    refine hx_Vz (wr := []) (As := []) (rest := []) hI (c_Reader_readVerb hT st ) (cw_V (C := "HeadDesk$Reader") 0 hts m_2_18 m_2_20 ms_3 m_1_2 m_2_21 (by decide +kernel) ⟨by decide, by decide⟩) hX hA hP hD hS [0, 1, 2, 3, 4, 5, 6, 7] [] rfl rfl (by decide) (by decide) (by decide) (va_recv hX.1 hP (ci := 1) (q0 := 0) rfl rfl) rfl hl.1 rfl (Nat.le_of_ble_eq_true rfl) d_Reader_readFirstLine_1 ⟨Nat.zero_le _, Nat.zero_le _⟩ (fun H locs hP hD hS => ?_)
    obtain ⟨s_1, e_1⟩ : ∃ z : RS, z = (fVerb T st).2 := ⟨_, rfl⟩
    have hP : va_P D vwCl (rdW ad cd T s_1) H := by rw [e_1]; exact hP
    have hD : va_D A (rdW ad cd T s_1) := by rw [e_1]; exact hD
    refine lv_if_eq (tgt := 45) hx hb d_Reader_readFirstLine_4 (by decide) (fun c_4 => ?_) (fun c_4 => ?_)
    · skip
      have c_4 : ((fVerb T st).1) = false := bI_0 c_4
      refine lv_iconst (v := 0) hx hb d_Reader_readFirstLine_45 (by decide) ?_
      exact hret H locs s_1 false _ _ hP hD hS (pr2 (by first | (simp only [fFst, c_4, bnd_f c_4, ← e_1, fStop, if_true, if_false, Bool.false_eq_true, ↓reduceIte]; done) | (simp only [fFst, c_4, bnd_f c_4, ← e_1, fStop, if_true, if_false, Bool.false_eq_true, ↓reduceIte]; with_reducible rfl) | (simp only [fFst, c_4, bnd_f c_4, ← e_1, fStop, if_true, if_false, Bool.false_eq_true, ↓reduceIte]; rw [e_1]))) d_Reader_readFirstLine_46
    · skip
      have c_4 : ((fVerb T st).1) = true := bI_1 c_4
      refine lv_aload_n hx hb d_Reader_readFirstLine_7 rfl (lv_at hl 0 rfl) ?_
      refine lv_bipush (v := 32) hx hb d_Reader_readFirstLine_8 (by decide) ?_
      refine hx_Vz (wr := []) (As := [.int 32]) (rest := []) hI (c_Reader_take hT s_1 32) (cw_V (C := "HeadDesk$Reader") 1 hts m_2_93 m_2_95 ms_7 m_1_2 m_2_96 (by decide +kernel) ⟨by decide, by decide⟩) hX hA hP hD hS [0, 1, 2, 3, 4, 5, 6, 7] [] rfl rfl (by decide) (by decide) (by decide) (va_recv hX.1 hP (ci := 1) (q0 := 0) rfl rfl) rfl hl.1 rfl (Nat.le_of_ble_eq_true rfl) d_Reader_readFirstLine_10 ⟨Nat.zero_le _, Nat.zero_le _⟩ (fun H locs hP hD hS => ?_)
      obtain ⟨s_10, e_10⟩ : ∃ z : RS, z = (fTake T s_1 32).2 := ⟨_, rfl⟩
      have hP : va_P D vwCl (rdW ad cd T s_10) H := by rw [e_10]; exact hP
      have hD : va_D A (rdW ad cd T s_10) := by rw [e_10]; exact hD
      refine lv_if_eq (tgt := 45) hx hb d_Reader_readFirstLine_13 (by decide) (fun c_13 => ?_) (fun c_13 => ?_)
      · skip
        have c_13 : ((fTake T s_1 32).1) = false := bI_0 c_13
        refine lv_iconst (v := 0) hx hb d_Reader_readFirstLine_45 (by decide) ?_
        exact hret H locs s_10 false _ _ hP hD hS (pr2 (by first | (simp only [fFst, c_4, c_13, bnd_t c_4, bnd_f c_13, ← e_1, ← e_10, fStop, if_true, if_false, Bool.false_eq_true, ↓reduceIte]; done) | (simp only [fFst, c_4, c_13, bnd_t c_4, bnd_f c_13, ← e_1, ← e_10, fStop, if_true, if_false, Bool.false_eq_true, ↓reduceIte]; with_reducible rfl) | (simp only [fFst, c_4, c_13, bnd_t c_4, bnd_f c_13, ← e_1, ← e_10, fStop, if_true, if_false, Bool.false_eq_true, ↓reduceIte]; rw [e_10]))) d_Reader_readFirstLine_46
      · skip
        have c_13 : ((fTake T s_1 32).1) = true := bI_1 c_13
        refine lv_aload_n hx hb d_Reader_readFirstLine_16 rfl (lv_at hl 0 rfl) ?_
        refine lv_bipush (v := 47) hx hb d_Reader_readFirstLine_17 (by decide) ?_
        refine hx_Vz (wr := []) (As := [.int 47]) (rest := []) hI (c_Reader_take hT s_10 47) (cw_V (C := "HeadDesk$Reader") 1 hts m_2_93 m_2_95 ms_7 m_1_2 m_2_96 (by decide +kernel) ⟨by decide, by decide⟩) hX hA hP hD hS [0, 1, 2, 3, 4, 5, 6, 7] [] rfl rfl (by decide) (by decide) (by decide) (va_recv hX.1 hP (ci := 1) (q0 := 0) rfl rfl) rfl hl.1 rfl (Nat.le_of_ble_eq_true rfl) d_Reader_readFirstLine_19 ⟨Nat.zero_le _, Nat.zero_le _⟩ (fun H locs hP hD hS => ?_)
        obtain ⟨s_19, e_19⟩ : ∃ z : RS, z = (fTake T s_10 47).2 := ⟨_, rfl⟩
        have hP : va_P D vwCl (rdW ad cd T s_19) H := by rw [e_19]; exact hP
        have hD : va_D A (rdW ad cd T s_19) := by rw [e_19]; exact hD
        refine lv_if_eq (tgt := 45) hx hb d_Reader_readFirstLine_22 (by decide) (fun c_22 => ?_) (fun c_22 => ?_)
        · skip
          have c_22 : ((fTake T s_10 47).1) = false := bI_0 c_22
          refine lv_iconst (v := 0) hx hb d_Reader_readFirstLine_45 (by decide) ?_
          exact hret H locs s_19 false _ _ hP hD hS (pr2 (by first | (simp only [fFst, c_4, c_13, c_22, bnd_t c_4, bnd_t c_13, bnd_f c_22, ← e_1, ← e_10, ← e_19, fStop, if_true, if_false, Bool.false_eq_true, ↓reduceIte]; done) | (simp only [fFst, c_4, c_13, c_22, bnd_t c_4, bnd_t c_13, bnd_f c_22, ← e_1, ← e_10, ← e_19, fStop, if_true, if_false, Bool.false_eq_true, ↓reduceIte]; with_reducible rfl) | (simp only [fFst, c_4, c_13, c_22, bnd_t c_4, bnd_t c_13, bnd_f c_22, ← e_1, ← e_10, ← e_19, fStop, if_true, if_false, Bool.false_eq_true, ↓reduceIte]; rw [e_19]))) d_Reader_readFirstLine_46
        · skip
          have c_22 : ((fTake T s_10 47).1) = true := bI_1 c_22
          refine lv_aload_n hx hb d_Reader_readFirstLine_25 rfl (lv_at hl 0 rfl) ?_
          refine hx_Vz (wr := []) (As := []) (rest := []) hI (c_Reader_readTarget hT s_19 ) (cw_V (C := "HeadDesk$Reader") 0 hts m_2_97 m_2_99 ms_8 m_1_2 m_2_100 (by decide +kernel) ⟨by decide, by decide⟩) hX hA hP hD hS [0, 1, 2, 3, 4, 5, 6, 7] [] rfl rfl (by decide) (by decide) (by decide) (va_recv hX.1 hP (ci := 1) (q0 := 0) rfl rfl) rfl hl.1 rfl (Nat.le_of_ble_eq_true rfl) d_Reader_readFirstLine_26 ⟨Nat.zero_le _, Nat.zero_le _⟩ (fun H locs hP hD hS => ?_)
          obtain ⟨s_26, e_26⟩ : ∃ z : RS, z = (fTgt T s_19).2 := ⟨_, rfl⟩
          have hP : va_P D vwCl (rdW ad cd T s_26) H := by rw [e_26]; exact hP
          have hD : va_D A (rdW ad cd T s_26) := by rw [e_26]; exact hD
          refine lv_if_eq (tgt := 45) hx hb d_Reader_readFirstLine_29 (by decide) (fun c_29 => ?_) (fun c_29 => ?_)
          · skip
            have c_29 : ((fTgt T s_19).1) = false := bI_0 c_29
            refine lv_iconst (v := 0) hx hb d_Reader_readFirstLine_45 (by decide) ?_
            exact hret H locs s_26 false _ _ hP hD hS (pr2 (by first | (simp only [fFst, c_4, c_13, c_22, c_29, bnd_t c_4, bnd_t c_13, bnd_t c_22, bnd_f c_29, ← e_1, ← e_10, ← e_19, ← e_26, fStop, if_true, if_false, Bool.false_eq_true, ↓reduceIte]; done) | (simp only [fFst, c_4, c_13, c_22, c_29, bnd_t c_4, bnd_t c_13, bnd_t c_22, bnd_f c_29, ← e_1, ← e_10, ← e_19, ← e_26, fStop, if_true, if_false, Bool.false_eq_true, ↓reduceIte]; with_reducible rfl) | (simp only [fFst, c_4, c_13, c_22, c_29, bnd_t c_4, bnd_t c_13, bnd_t c_22, bnd_f c_29, ← e_1, ← e_10, ← e_19, ← e_26, fStop, if_true, if_false, Bool.false_eq_true, ↓reduceIte]; rw [e_26]))) d_Reader_readFirstLine_46
          · skip
            have c_29 : ((fTgt T s_19).1) = true := bI_1 c_29
            refine lv_aload_n hx hb d_Reader_readFirstLine_32 rfl (lv_at hl 0 rfl) ?_
            refine lv_bipush (v := 10) hx hb d_Reader_readFirstLine_33 (by decide) ?_
            refine hx_Vz (wr := []) (As := [.int 10]) (rest := []) hI (c_Reader_take hT s_26 10) (cw_V (C := "HeadDesk$Reader") 1 hts m_2_93 m_2_95 ms_7 m_1_2 m_2_96 (by decide +kernel) ⟨by decide, by decide⟩) hX hA hP hD hS [0, 1, 2, 3, 4, 5, 6, 7] [] rfl rfl (by decide) (by decide) (by decide) (va_recv hX.1 hP (ci := 1) (q0 := 0) rfl rfl) rfl hl.1 rfl (Nat.le_of_ble_eq_true rfl) d_Reader_readFirstLine_35 ⟨Nat.zero_le _, Nat.zero_le _⟩ (fun H locs hP hD hS => ?_)
            obtain ⟨s_35, e_35⟩ : ∃ z : RS, z = (fTake T s_26 10).2 := ⟨_, rfl⟩
            have hP : va_P D vwCl (rdW ad cd T s_35) H := by rw [e_35]; exact hP
            have hD : va_D A (rdW ad cd T s_35) := by rw [e_35]; exact hD
            refine lv_if_eq (tgt := 45) hx hb d_Reader_readFirstLine_38 (by decide) (fun c_38 => ?_) (fun c_38 => ?_)
            · skip
              have c_38 : ((fTake T s_26 10).1) = false := bI_0 c_38
              refine lv_iconst (v := 0) hx hb d_Reader_readFirstLine_45 (by decide) ?_
              exact hret H locs s_35 false _ _ hP hD hS (pr2 (by first | (simp only [fFst, c_4, c_13, c_22, c_29, c_38, bnd_t c_4, bnd_t c_13, bnd_t c_22, bnd_t c_29, bnd_f c_38, ← e_1, ← e_10, ← e_19, ← e_26, ← e_35, fStop, if_true, if_false, Bool.false_eq_true, ↓reduceIte]; done) | (simp only [fFst, c_4, c_13, c_22, c_29, c_38, bnd_t c_4, bnd_t c_13, bnd_t c_22, bnd_t c_29, bnd_f c_38, ← e_1, ← e_10, ← e_19, ← e_26, ← e_35, fStop, if_true, if_false, Bool.false_eq_true, ↓reduceIte]; with_reducible rfl) | (simp only [fFst, c_4, c_13, c_22, c_29, c_38, bnd_t c_4, bnd_t c_13, bnd_t c_22, bnd_t c_29, bnd_f c_38, ← e_1, ← e_10, ← e_19, ← e_26, ← e_35, fStop, if_true, if_false, Bool.false_eq_true, ↓reduceIte]; rw [e_35]))) d_Reader_readFirstLine_46
            · skip
              have c_38 : ((fTake T s_26 10).1) = true := bI_1 c_38
              refine lv_iconst (v := 1) hx hb d_Reader_readFirstLine_41 (by decide) ?_
              refine lv_goto (tgt := 46) hx hb d_Reader_readFirstLine_42 (by decide) ?_
              exact hret H locs s_35 true _ _ hP hD hS (pr2 (by first | (simp only [fFst, c_4, c_13, c_22, c_29, c_38, bnd_t c_4, bnd_t c_13, bnd_t c_22, bnd_t c_29, bnd_t c_38, ← e_1, ← e_10, ← e_19, ← e_26, ← e_35, fStop, if_true, if_false, Bool.false_eq_true, ↓reduceIte]; done) | (simp only [fFst, c_4, c_13, c_22, c_29, c_38, bnd_t c_4, bnd_t c_13, bnd_t c_22, bnd_t c_29, bnd_t c_38, ← e_1, ← e_10, ← e_19, ← e_26, ← e_35, fStop, if_true, if_false, Bool.false_eq_true, ↓reduceIte]; with_reducible rfl) | (simp only [fFst, c_4, c_13, c_22, c_29, c_38, bnd_t c_4, bnd_t c_13, bnd_t c_22, bnd_t c_29, bnd_t c_38, ← e_1, ← e_10, ← e_19, ← e_26, ← e_35, fStop, if_true, if_false, Bool.false_eq_true, ↓reduceIte]; rw [e_35]))) d_Reader_readFirstLine_46
  rw [hH, hlo] at goal
  exact goal
