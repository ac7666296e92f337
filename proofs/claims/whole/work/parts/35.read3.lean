variable {l : Launch} {D : va_G} {ad : Nat → Nat} {cd : Nat → ClassId} {adK adV : Nat → Nat} {tF : Nat} {T : TX} {tys : List (ClassId × FieldType)}

set_option maxHeartbeats 4000000 in
set_option maxRecDepth 100000 in
theorem c_Reader_countBare (hT : T.2 ≤ 300) (st : RS)  : hx_Mv l D (tyH cd) adK adV tF (rdW ad cd T) y_Reader_countBare w_Reader_countBare (rmD 6) [.ref (ad 0)] st (fBare T st) := by
  refine hx_Mv.of (cc := b_Reader_countBare) (maxL := 1) (by decide) rfl (Nat.le_of_ble_eq_true rfl) ?_
  intro p e s m below meth c A Q ls hI hX hA hP hD hS hl hret
  obtain ⟨hx, hb, hml, hown, hts⟩ := id hI
  have hts : ∀ w ∈ aw, w.before ([.ref (ad 0)] : List Value).toArray s = true := fun w h => hts w (List.mem_cons_of_mem _ h)
  have hown : s.vm.findClass "HeadDesk$Reader" = some m.cls := hown
  have hI : hx_In p s m ([.ref (ad 0)] : List Value).toArray c b_Reader_countBare 1 "HeadDesk$Reader" aw := ⟨hx, hb, hml, hown, hts⟩
  have hP : va_P D vwCl (rdW ad cd T st) s.heap := hP
  obtain ⟨H, hH⟩ : ∃ H, H = s.heap := ⟨_, rfl⟩
  obtain ⟨locs, hlo⟩ : ∃ locs : List Loc, locs = [] := ⟨_, rfl⟩
  have hS : va_S A s.heap H locs := by rw [hH, hlo]; exact hS
  have hP : va_P D vwCl (rdW ad cd T st) H := by rw [hH]; exact hP
  have hl : lv_has ls 1 [(0, .ref (ad 0))] := hl
  have goal : W p l e (rmD 6) s m ([.ref (ad 0)] : List Value).toArray below meth c H locs 0 0 Q (F0 m 0 ls []) := by
    refine lv_aload_n hx hb d_Reader_countBare_0 rfl (lv_at hl 0 rfl) ?_
    refine va_ldcS hx hb hown (hX.2.2.2.2.2.1 _ _ _ _ st_5) d_Reader_countBare_1 ?_
    refine hx_Vz (wr := []) (As := [.ref (adK 5)]) (rest := []) hI (c_Reader_isWordL hT st (by decide) sw_5) (cw_V (C := "HeadDesk$Reader") 1 hts m_2_136 m_2_138 ms_16 m_1_2 m_2_139 (by decide +kernel) ⟨by decide, by decide⟩) hX hA hP hD hS [0, 1, 2, 3, 4, 5, 6, 7] [] rfl rfl (by decide) (by decide) (by decide) (va_recv hX.1 hP (ci := 1) (q0 := 0) rfl rfl) rfl hl.1 rfl (Nat.le_of_ble_eq_true rfl) d_Reader_countBare_3 ⟨Nat.zero_le _, Nat.zero_le _⟩ (fun H locs hP hD hS => ?_)
    have hP : va_P D vwCl (rdW ad cd T st) H := hP
    have hD : va_D A (rdW ad cd T st) := hD
    refine lv_if_eq (tgt := 22) hx hb d_Reader_countBare_6 (by decide) (fun c_6 => ?_) (fun c_6 => ?_)
    · skip
      have c_6 : (fIsW T st t_no_cache) = false := bI_0 c_6
      refine lv_aload_n hx hb d_Reader_countBare_22 rfl (lv_at hl 0 rfl) ?_
      refine va_get (D := D) (ci := 1) (v := .int (rKd st)) (C := "HeadDesk$Reader") (T := F_Reader) (N := 11) hx hb hts a_Reader hown hX.1 hP 0 rfl rfl 5 (by decide) (hts _ m_1_66) (fun _ h9 => h9) rfl d_Reader_countBare_23 ?_
      refine lv_iconst (v := 1) hx hb d_Reader_countBare_26 (by decide) ?_
      refine lv_icmp_ne (tgt := 52) hx hb d_Reader_countBare_27 (by decide) (fun c_27 => ?_) (fun c_27 => ?_)
      · skip
        have c_27 : ¬ (rKd st = 1) := c_27
        refine lv_aload_n hx hb d_Reader_countBare_52 rfl (lv_at hl 0 rfl) ?_
        refine va_ldcS hx hb hown (hX.2.2.2.2.2.1 _ _ _ _ st_7) d_Reader_countBare_53 ?_
        refine hx_Vz (wr := []) (As := [.ref (adK 7)]) (rest := []) hI (c_Reader_isWordL hT st (by decide) sw_7) (cw_V (C := "HeadDesk$Reader") 1 hts m_2_136 m_2_138 ms_16 m_1_2 m_2_139 (by decide +kernel) ⟨by decide, by decide⟩) hX hA hP hD hS [0, 1, 2, 3, 4, 5, 6, 7] [] rfl rfl (by decide) (by decide) (by decide) (va_recv hX.1 hP (ci := 1) (q0 := 0) rfl rfl) rfl hl.1 rfl (Nat.le_of_ble_eq_true rfl) d_Reader_countBare_55 ⟨Nat.zero_le _, Nat.zero_le _⟩ (fun H locs hP hD hS => ?_)
        have hP : va_P D vwCl (rdW ad cd T st) H := hP
        have hD : va_D A (rdW ad cd T st) := hD
        refine lv_if_eq (tgt := 74) hx hb d_Reader_countBare_58 (by decide) (fun c_58 => ?_) (fun c_58 => ?_)
        · skip
          have c_58 : (fIsW T st t_only_if_cached) = false := bI_0 c_58
          refine lv_aload_n hx hb d_Reader_countBare_74 rfl (lv_at hl 0 rfl) ?_
          refine va_ldcS hx hb hown (hX.2.2.2.2.2.1 _ _ _ _ st_8) d_Reader_countBare_75 ?_
          refine hx_Vz (wr := []) (As := [.ref (adK 8)]) (rest := []) hI (c_Reader_isWordL hT st (by decide) sw_8) (cw_V (C := "HeadDesk$Reader") 1 hts m_2_136 m_2_138 ms_16 m_1_2 m_2_139 (by decide +kernel) ⟨by decide, by decide⟩) hX hA hP hD hS [0, 1, 2, 3, 4, 5, 6, 7] [] rfl rfl (by decide) (by decide) (by decide) (va_recv hX.1 hP (ci := 1) (q0 := 0) rfl rfl) rfl hl.1 rfl (Nat.le_of_ble_eq_true rfl) d_Reader_countBare_77 ⟨Nat.zero_le _, Nat.zero_le _⟩ (fun H locs hP hD hS => ?_)
          have hP : va_P D vwCl (rdW ad cd T st) H := hP
          have hD : va_D A (rdW ad cd T st) := hD
          refine lv_if_eq (tgt := 94) hx hb d_Reader_countBare_80 (by decide) (fun c_80 => ?_) (fun c_80 => ?_)
          · skip
            have c_80 : (fIsW T st t_max_stale) = false := bI_0 c_80
            exact hret H locs st _ _ hP hD hS (by first | (simp only [fBare, c_6, if_neg c_27, c_58, c_80, fStop, if_true, if_false, Bool.false_eq_true, ↓reduceIte]; done) | (simp only [fBare, c_6, if_neg c_27, c_58, c_80, fStop, if_true, if_false, Bool.false_eq_true, ↓reduceIte]; with_reducible rfl)) d_Reader_countBare_94
          · skip
            have c_80 : (fIsW T st t_max_stale) = true := bI_1 c_80
            refine lv_aload_n hx hb d_Reader_countBare_83 rfl (lv_at hl 0 rfl) ?_
            refine va_get (D := D) (ci := 1) (v := .ref (ad 5)) (C := "HeadDesk$Reader") (T := F_Reader) (N := 11) hx hb hts a_Reader hown hX.1 hP 0 rfl rfl 3 (by decide) (hts _ m_1_64) (fun _ h9 => h9) rfl d_Reader_countBare_84 ?_
            refine lv_bipush (v := 13) hx hb d_Reader_countBare_87 (by decide) ?_
            refine lv_bipush (v := (-2)) hx hb d_Reader_countBare_89 (by decide) ?_
            refine hx_Vv (wr := [(ad 0, .inr (1, [.ref (ad 1), .ref (ad 3), .ref (ad 4), .ref (ad 5), .int (rNm st), .int (rKd st), .int (rPl st), .int (rSk st), .int (rNb st), .int (rWs st), .int (rWe st)])), (ad 1, .inr (2, [.ref (ad 2), .int (T.2)])), (ad 2, .inl (cd 0, 300, .inl T.1)), (ad 3, .inl (cd 1, 100, .inl (rNs st))), (ad 4, .inl (cd 2, 100, .inl (rNe st)))]) (As := [.int 13, .int (-2)]) (rest := []) hI (c_Head_set (ah := ad 5) (av := ad 6) (ar := ad 7) (cv := cd 3) (cr := cd 4) (tv := 3) (tr := 4) rfl rfl (rVs st, rVr st) 13 (-2)) (cw_V (C := "HeadDesk$Head") 2 hts m_2_22 m_2_23 m_2_24 m_1_4 m_2_25 (by decide +kernel) ⟨by decide, by decide⟩) hX hA hP hD hS [5, 6, 7] [0, 1, 2, 3, 4] rfl rfl (by decide) (by decide) (by decide) (va_recv hX.1 hP (ci := 0) (q0 := 5) rfl rfl) rfl hl.1 rfl (Nat.le_of_ble_eq_true rfl) d_Reader_countBare_91 ⟨Nat.zero_le _, Nat.zero_le _⟩ (fun H locs hP hD hS => ?_)
            obtain ⟨s_91, e_91⟩ : ∃ z : RS, z = sVs st (hSet (rVs st) 13 (-2)) := ⟨_, rfl⟩
            have hP : va_P D vwCl (rdW ad cd T s_91) H := by rw [e_91]; exact hP.sub [0, 1, 2, 3, 4, 5, 6, 7] rfl
            have hD : va_D A (rdW ad cd T s_91) := by rw [e_91]; exact hD.sub [0, 1, 2, 3, 4, 5, 6, 7] (by decide) rfl
            exact hret H locs s_91 _ _ hP hD hS (by first | (simp only [fBare, c_6, if_neg c_27, c_58, c_80, ← e_91, fStop, if_true, if_false, Bool.false_eq_true, ↓reduceIte]; done) | (simp only [fBare, c_6, if_neg c_27, c_58, c_80, ← e_91, fStop, if_true, if_false, Bool.false_eq_true, ↓reduceIte]; with_reducible rfl) | (simp only [fBare, c_6, if_neg c_27, c_58, c_80, ← e_91, fStop, if_true, if_false, Bool.false_eq_true, ↓reduceIte]; rw [e_91])) d_Reader_countBare_94
        · skip
          have c_58 : (fIsW T st t_only_if_cached) = true := bI_1 c_58
          refine lv_aload_n hx hb d_Reader_countBare_61 rfl (lv_at hl 0 rfl) ?_
          refine va_get (D := D) (ci := 1) (v := .ref (ad 5)) (C := "HeadDesk$Reader") (T := F_Reader) (N := 11) hx hb hts a_Reader hown hX.1 hP 0 rfl rfl 3 (by decide) (hts _ m_1_64) (fun _ h9 => h9) rfl d_Reader_countBare_62 ?_
          refine lv_bipush (v := 11) hx hb d_Reader_countBare_65 (by decide) ?_
          refine lv_iconst (v := 1) hx hb d_Reader_countBare_67 (by decide) ?_
          refine hx_Vv (wr := [(ad 0, .inr (1, [.ref (ad 1), .ref (ad 3), .ref (ad 4), .ref (ad 5), .int (rNm st), .int (rKd st), .int (rPl st), .int (rSk st), .int (rNb st), .int (rWs st), .int (rWe st)])), (ad 1, .inr (2, [.ref (ad 2), .int (T.2)])), (ad 2, .inl (cd 0, 300, .inl T.1)), (ad 3, .inl (cd 1, 100, .inl (rNs st))), (ad 4, .inl (cd 2, 100, .inl (rNe st)))]) (As := [.int 11, .int 1]) (rest := []) hI (c_Head_set (ah := ad 5) (av := ad 6) (ar := ad 7) (cv := cd 3) (cr := cd 4) (tv := 3) (tr := 4) rfl rfl (rVs st, rVr st) 11 1) (cw_V (C := "HeadDesk$Head") 2 hts m_2_22 m_2_23 m_2_24 m_1_4 m_2_25 (by decide +kernel) ⟨by decide, by decide⟩) hX hA hP hD hS [5, 6, 7] [0, 1, 2, 3, 4] rfl rfl (by decide) (by decide) (by decide) (va_recv hX.1 hP (ci := 0) (q0 := 5) rfl rfl) rfl hl.1 rfl (Nat.le_of_ble_eq_true rfl) d_Reader_countBare_68 ⟨Nat.zero_le _, Nat.zero_le _⟩ (fun H locs hP hD hS => ?_)
          obtain ⟨s_68, e_68⟩ : ∃ z : RS, z = sVs st (hSet (rVs st) 11 1) := ⟨_, rfl⟩
          have hP : va_P D vwCl (rdW ad cd T s_68) H := by rw [e_68]; exact hP.sub [0, 1, 2, 3, 4, 5, 6, 7] rfl
          have hD : va_D A (rdW ad cd T s_68) := by rw [e_68]; exact hD.sub [0, 1, 2, 3, 4, 5, 6, 7] (by decide) rfl
          refine lv_goto (tgt := 94) hx hb d_Reader_countBare_71 (by decide) ?_
          exact hret H locs s_68 _ _ hP hD hS (by first | (simp only [fBare, c_6, if_neg c_27, c_58, ← e_68, fStop, if_true, if_false, Bool.false_eq_true, ↓reduceIte]; done) | (simp only [fBare, c_6, if_neg c_27, c_58, ← e_68, fStop, if_true, if_false, Bool.false_eq_true, ↓reduceIte]; with_reducible rfl) | (simp only [fBare, c_6, if_neg c_27, c_58, ← e_68, fStop, if_true, if_false, Bool.false_eq_true, ↓reduceIte]; rw [e_68])) d_Reader_countBare_94
      · skip
        have c_27 : (rKd st = 1) := c_27
        refine lv_aload_n hx hb d_Reader_countBare_30 rfl (lv_at hl 0 rfl) ?_
        refine va_ldcS hx hb hown (hX.2.2.2.2.2.1 _ _ _ _ st_6) d_Reader_countBare_31 ?_
        refine hx_Vz (wr := []) (As := [.ref (adK 6)]) (rest := []) hI (c_Reader_isWordL hT st (by decide) sw_6) (cw_V (C := "HeadDesk$Reader") 1 hts m_2_136 m_2_138 ms_16 m_1_2 m_2_139 (by decide +kernel) ⟨by decide, by decide⟩) hX hA hP hD hS [0, 1, 2, 3, 4, 5, 6, 7] [] rfl rfl (by decide) (by decide) (by decide) (va_recv hX.1 hP (ci := 1) (q0 := 0) rfl rfl) rfl hl.1 rfl (Nat.le_of_ble_eq_true rfl) d_Reader_countBare_33 ⟨Nat.zero_le _, Nat.zero_le _⟩ (fun H locs hP hD hS => ?_)
        have hP : va_P D vwCl (rdW ad cd T st) H := hP
        have hD : va_D A (rdW ad cd T st) := hD
        refine lv_if_eq (tgt := 94) hx hb d_Reader_countBare_36 (by decide) (fun c_36 => ?_) (fun c_36 => ?_)
        · skip
          have c_36 : (fIsW T st t_no_store) = false := bI_0 c_36
          exact hret H locs st _ _ hP hD hS (by first | (simp only [fBare, c_6, if_pos c_27, c_36, fStop, if_true, if_false, Bool.false_eq_true, ↓reduceIte]; done) | (simp only [fBare, c_6, if_pos c_27, c_36, fStop, if_true, if_false, Bool.false_eq_true, ↓reduceIte]; with_reducible rfl)) d_Reader_countBare_94
        · skip
          have c_36 : (fIsW T st t_no_store) = true := bI_1 c_36
          refine lv_aload_n hx hb d_Reader_countBare_39 rfl (lv_at hl 0 rfl) ?_
          refine va_get (D := D) (ci := 1) (v := .ref (ad 5)) (C := "HeadDesk$Reader") (T := F_Reader) (N := 11) hx hb hts a_Reader hown hX.1 hP 0 rfl rfl 3 (by decide) (hts _ m_1_64) (fun _ h9 => h9) rfl d_Reader_countBare_40 ?_
          refine lv_bipush (v := 15) hx hb d_Reader_countBare_43 (by decide) ?_
          refine lv_iconst (v := 1) hx hb d_Reader_countBare_45 (by decide) ?_
          refine hx_Vv (wr := [(ad 0, .inr (1, [.ref (ad 1), .ref (ad 3), .ref (ad 4), .ref (ad 5), .int (rNm st), .int (rKd st), .int (rPl st), .int (rSk st), .int (rNb st), .int (rWs st), .int (rWe st)])), (ad 1, .inr (2, [.ref (ad 2), .int (T.2)])), (ad 2, .inl (cd 0, 300, .inl T.1)), (ad 3, .inl (cd 1, 100, .inl (rNs st))), (ad 4, .inl (cd 2, 100, .inl (rNe st)))]) (As := [.int 15, .int 1]) (rest := []) hI (c_Head_set (ah := ad 5) (av := ad 6) (ar := ad 7) (cv := cd 3) (cr := cd 4) (tv := 3) (tr := 4) rfl rfl (rVs st, rVr st) 15 1) (cw_V (C := "HeadDesk$Head") 2 hts m_2_22 m_2_23 m_2_24 m_1_4 m_2_25 (by decide +kernel) ⟨by decide, by decide⟩) hX hA hP hD hS [5, 6, 7] [0, 1, 2, 3, 4] rfl rfl (by decide) (by decide) (by decide) (va_recv hX.1 hP (ci := 0) (q0 := 5) rfl rfl) rfl hl.1 rfl (Nat.le_of_ble_eq_true rfl) d_Reader_countBare_46 ⟨Nat.zero_le _, Nat.zero_le _⟩ (fun H locs hP hD hS => ?_)
          obtain ⟨s_46, e_46⟩ : ∃ z : RS, z = sVs st (hSet (rVs st) 15 1) := ⟨_, rfl⟩
          have hP : va_P D vwCl (rdW ad cd T s_46) H := by rw [e_46]; exact hP.sub [0, 1, 2, 3, 4, 5, 6, 7] rfl
          have hD : va_D A (rdW ad cd T s_46) := by rw [e_46]; exact hD.sub [0, 1, 2, 3, 4, 5, 6, 7] (by decide) rfl
          refine lv_goto (tgt := 94) hx hb d_Reader_countBare_49 (by decide) ?_
          exact hret H locs s_46 _ _ hP hD hS (by first | (simp only [fBare, c_6, if_pos c_27, c_36, ← e_46, fStop, if_true, if_false, Bool.false_eq_true, ↓reduceIte]; done) | (simp only [fBare, c_6, if_pos c_27, c_36, ← e_46, fStop, if_true, if_false, Bool.false_eq_true, ↓reduceIte]; with_reducible rfl) | (simp only [fBare, c_6, if_pos c_27, c_36, ← e_46, fStop, if_true, if_false, Bool.false_eq_true, ↓reduceIte]; rw [e_46])) d_Reader_countBare_94
    · skip
      have c_6 : (fIsW T st t_no_cache) = true := bI_1 c_6
      refine lv_aload_n hx hb d_Reader_countBare_9 rfl (lv_at hl 0 rfl) ?_
      refine va_get (D := D) (ci := 1) (v := .ref (ad 5)) (C := "HeadDesk$Reader") (T := F_Reader) (N := 11) hx hb hts a_Reader hown hX.1 hP 0 rfl rfl 3 (by decide) (hts _ m_1_64) (fun _ h9 => h9) rfl d_Reader_countBare_10 ?_
      refine lv_bipush (v := 10) hx hb d_Reader_countBare_13 (by decide) ?_
      refine lv_iconst (v := 1) hx hb d_Reader_countBare_15 (by decide) ?_
      refine hx_Vv (wr := [(ad 0, .inr (1, [.ref (ad 1), .ref (ad 3), .ref (ad 4), .ref (ad 5), .int (rNm st), .int (rKd st), .int (rPl st), .int (rSk st), .int (rNb st), .int (rWs st), .int (rWe st)])), (ad 1, .inr (2, [.ref (ad 2), .int (T.2)])), (ad 2, .inl (cd 0, 300, .inl T.1)), (ad 3, .inl (cd 1, 100, .inl (rNs st))), (ad 4, .inl (cd 2, 100, .inl (rNe st)))]) (As := [.int 10, .int 1]) (rest := []) hI (c_Head_set (ah := ad 5) (av := ad 6) (ar := ad 7) (cv := cd 3) (cr := cd 4) (tv := 3) (tr := 4) rfl rfl (rVs st, rVr st) 10 1) (cw_V (C := "HeadDesk$Head") 2 hts m_2_22 m_2_23 m_2_24 m_1_4 m_2_25 (by decide +kernel) ⟨by decide, by decide⟩) hX hA hP hD hS [5, 6, 7] [0, 1, 2, 3, 4] rfl rfl (by decide) (by decide) (by decide) (va_recv hX.1 hP (ci := 0) (q0 := 5) rfl rfl) rfl hl.1 rfl (Nat.le_of_ble_eq_true rfl) d_Reader_countBare_16 ⟨Nat.zero_le _, Nat.zero_le _⟩ (fun H locs hP hD hS => ?_)
      obtain ⟨s_16, e_16⟩ : ∃ z : RS, z = sVs st (hSet (rVs st) 10 1) := ⟨_, rfl⟩
      have hP : va_P D vwCl (rdW ad cd T s_16) H := by rw [e_16]; exact hP.sub [0, 1, 2, 3, 4, 5, 6, 7] rfl
      have hD : va_D A (rdW ad cd T s_16) := by rw [e_16]; exact hD.sub [0, 1, 2, 3, 4, 5, 6, 7] (by decide) rfl
      refine lv_goto (tgt := 94) hx hb d_Reader_countBare_19 (by decide) ?_
      exact hret H locs s_16 _ _ hP hD hS (by first | (simp only [fBare, c_6, ← e_16, fStop, if_true, if_false, Bool.false_eq_true, ↓reduceIte]; done) | (simp only [fBare, c_6, ← e_16, fStop, if_true, if_false, Bool.false_eq_true, ↓reduceIte]; with_reducible rfl) | (simp only [fBare, c_6, ← e_16, fStop, if_true, if_false, Bool.false_eq_true, ↓reduceIte]; rw [e_16])) d_Reader_countBare_94
  rw [hH, hlo] at goal
  exact goal
set_option maxHeartbeats 4000000 in
set_option maxRecDepth 100000 in
theorem c_Reader_countWithNumber (hT : T.2 ≤ 300) (st : RS)  : hx_Mv l D (tyH cd) adK adV tF (rdW ad cd T) y_Reader_countWithNumber w_Reader_countWithNumber (rmD 6) [.ref (ad 0)] st (fWith T st) := by
  refine hx_Mv.of (cc := b_Reader_countWithNumber) (maxL := 1) (by decide) rfl (Nat.le_of_ble_eq_true rfl) ?_
  intro p e s m below meth c A Q ls hI hX hA hP hD hS hl hret
  obtain ⟨hx, hb, hml, hown, hts⟩ := id hI
  have hts : ∀ w ∈ aw, w.before ([.ref (ad 0)] : List Value).toArray s = true := fun w h => hts w (List.mem_cons_of_mem _ h)
  have hown : s.vm.findClass "HeadDesk$Reader" = some m.cls := hown
  have hI : hx_In p s m ([.ref (ad 0)] : List Value).toArray c b_Reader_countWithNumber 1 "HeadDesk$Reader" aw := ⟨hx, hb, hml, hown, hts⟩
  have hP : va_P D vwCl (rdW ad cd T st) s.heap := hP
  obtain ⟨H, hH⟩ : ∃ H, H = s.heap := ⟨_, rfl⟩
  obtain ⟨locs, hlo⟩ : ∃ locs : List Loc, locs = [] := ⟨_, rfl⟩
  have hS : va_S A s.heap H locs := by rw [hH, hlo]; exact hS
  have hP : va_P D vwCl (rdW ad cd T st) H := by rw [hH]; exact hP
  have hl : lv_has ls 1 [(0, .ref (ad 0))] := hl
  have goal : W p l e (rmD 6) s m ([.ref (ad 0)] : List Value).toArray below meth c H locs 0 0 Q (F0 m 0 ls []) := by
    refine lv_aload_n hx hb d_Reader_countWithNumber_0 rfl (lv_at hl 0 rfl) ?_
    refine va_ldcS hx hb hown (hX.2.2.2.2.2.1 _ _ _ _ st_9) d_Reader_countWithNumber_1 ?_
    refine hx_Vz (wr := []) (As := [.ref (adK 9)]) (rest := []) hI (c_Reader_isWordL hT st (by decide) sw_9) (cw_V (C := "HeadDesk$Reader") 1 hts m_2_136 m_2_138 ms_16 m_1_2 m_2_139 (by decide +kernel) ⟨by decide, by decide⟩) hX hA hP hD hS [0, 1, 2, 3, 4, 5, 6, 7] [] rfl rfl (by decide) (by decide) (by decide) (va_recv hX.1 hP (ci := 1) (q0 := 0) rfl rfl) rfl hl.1 rfl (Nat.le_of_ble_eq_true rfl) d_Reader_countWithNumber_3 ⟨Nat.zero_le _, Nat.zero_le _⟩ (fun H locs hP hD hS => ?_)
    have hP : va_P D vwCl (rdW ad cd T st) H := hP
    have hD : va_D A (rdW ad cd T st) := hD
    refine lv_if_eq (tgt := 25) hx hb d_Reader_countWithNumber_6 (by decide) (fun c_6 => ?_) (fun c_6 => ?_)
    · skip
      have c_6 : (fIsW T st t_max_age) = false := bI_0 c_6
      refine lv_aload_n hx hb d_Reader_countWithNumber_25 rfl (lv_at hl 0 rfl) ?_
      refine va_get (D := D) (ci := 1) (v := .int (rKd st)) (C := "HeadDesk$Reader") (T := F_Reader) (N := 11) hx hb hts a_Reader hown hX.1 hP 0 rfl rfl 5 (by decide) (hts _ m_1_66) (fun _ h9 => h9) rfl d_Reader_countWithNumber_26 ?_
      refine lv_iconst (v := 1) hx hb d_Reader_countWithNumber_29 (by decide) ?_
      refine lv_icmp_ne (tgt := 83) hx hb d_Reader_countWithNumber_30 (by decide) (fun c_30 => ?_) (fun c_30 => ?_)
      · skip
        have c_30 : ¬ (rKd st = 1) := c_30
        refine lv_aload_n hx hb d_Reader_countWithNumber_83 rfl (lv_at hl 0 rfl) ?_
        refine va_ldcS hx hb hown (hX.2.2.2.2.2.1 _ _ _ _ st_8) d_Reader_countWithNumber_84 ?_
        refine hx_Vz (wr := []) (As := [.ref (adK 8)]) (rest := []) hI (c_Reader_isWordL hT st (by decide) sw_8) (cw_V (C := "HeadDesk$Reader") 1 hts m_2_136 m_2_138 ms_16 m_1_2 m_2_139 (by decide +kernel) ⟨by decide, by decide⟩) hX hA hP hD hS [0, 1, 2, 3, 4, 5, 6, 7] [] rfl rfl (by decide) (by decide) (by decide) (va_recv hX.1 hP (ci := 1) (q0 := 0) rfl rfl) rfl hl.1 rfl (Nat.le_of_ble_eq_true rfl) d_Reader_countWithNumber_86 ⟨Nat.zero_le _, Nat.zero_le _⟩ (fun H locs hP hD hS => ?_)
        have hP : va_P D vwCl (rdW ad cd T st) H := hP
        have hD : va_D A (rdW ad cd T st) := hD
        refine lv_if_eq (tgt := 108) hx hb d_Reader_countWithNumber_89 (by decide) (fun c_89 => ?_) (fun c_89 => ?_)
        · skip
          have c_89 : (fIsW T st t_max_stale) = false := bI_0 c_89
          refine lv_aload_n hx hb d_Reader_countWithNumber_108 rfl (lv_at hl 0 rfl) ?_
          refine va_ldcS hx hb hown (hX.2.2.2.2.2.1 _ _ _ _ st_12) d_Reader_countWithNumber_109 ?_
          refine hx_Vz (wr := []) (As := [.ref (adK 12)]) (rest := []) hI (c_Reader_isWordL hT st (by decide) sw_12) (cw_V (C := "HeadDesk$Reader") 1 hts m_2_136 m_2_138 ms_16 m_1_2 m_2_139 (by decide +kernel) ⟨by decide, by decide⟩) hX hA hP hD hS [0, 1, 2, 3, 4, 5, 6, 7] [] rfl rfl (by decide) (by decide) (by decide) (va_recv hX.1 hP (ci := 1) (q0 := 0) rfl rfl) rfl hl.1 rfl (Nat.le_of_ble_eq_true rfl) d_Reader_countWithNumber_111 ⟨Nat.zero_le _, Nat.zero_le _⟩ (fun H locs hP hD hS => ?_)
          have hP : va_P D vwCl (rdW ad cd T st) H := hP
          have hD : va_D A (rdW ad cd T st) := hD
          refine lv_if_eq (tgt := 130) hx hb d_Reader_countWithNumber_114 (by decide) (fun c_114 => ?_) (fun c_114 => ?_)
          · skip
            have c_114 : (fIsW T st t_min_fresh) = false := bI_0 c_114
            exact hret H locs st _ _ hP hD hS (by first | (simp only [fWith, c_6, if_neg c_30, c_89, c_114, fStop, if_true, if_false, Bool.false_eq_true, ↓reduceIte]; done) | (simp only [fWith, c_6, if_neg c_30, c_89, c_114, fStop, if_true, if_false, Bool.false_eq_true, ↓reduceIte]; with_reducible rfl)) d_Reader_countWithNumber_130
          · skip
            have c_114 : (fIsW T st t_min_fresh) = true := bI_1 c_114
            refine lv_aload_n hx hb d_Reader_countWithNumber_117 rfl (lv_at hl 0 rfl) ?_
            refine va_get (D := D) (ci := 1) (v := .ref (ad 5)) (C := "HeadDesk$Reader") (T := F_Reader) (N := 11) hx hb hts a_Reader hown hX.1 hP 0 rfl rfl 3 (by decide) (hts _ m_1_64) (fun _ h9 => h9) rfl d_Reader_countWithNumber_118 ?_
            refine lv_bipush (v := 14) hx hb d_Reader_countWithNumber_121 (by decide) ?_
            refine lv_aload_n hx hb d_Reader_countWithNumber_123 rfl (lv_at hl 0 rfl) ?_
            refine va_get (D := D) (ci := 1) (v := .int (rNb st)) (C := "HeadDesk$Reader") (T := F_Reader) (N := 11) hx hb hts a_Reader hown hX.1 hP 0 rfl rfl 8 (by decide) (hts _ m_1_69) (fun _ h9 => h9) rfl d_Reader_countWithNumber_124 ?_
            refine hx_Vv (wr := [(ad 0, .inr (1, [.ref (ad 1), .ref (ad 3), .ref (ad 4), .ref (ad 5), .int (rNm st), .int (rKd st), .int (rPl st), .int (rSk st), .int (rNb st), .int (rWs st), .int (rWe st)])), (ad 1, .inr (2, [.ref (ad 2), .int (T.2)])), (ad 2, .inl (cd 0, 300, .inl T.1)), (ad 3, .inl (cd 1, 100, .inl (rNs st))), (ad 4, .inl (cd 2, 100, .inl (rNe st)))]) (As := [.int 14, .int (rNb st)]) (rest := []) hI (c_Head_set (ah := ad 5) (av := ad 6) (ar := ad 7) (cv := cd 3) (cr := cd 4) (tv := 3) (tr := 4) rfl rfl (rVs st, rVr st) 14 (rNb st)) (cw_V (C := "HeadDesk$Head") 2 hts m_2_22 m_2_23 m_2_24 m_1_4 m_2_25 (by decide +kernel) ⟨by decide, by decide⟩) hX hA hP hD hS [5, 6, 7] [0, 1, 2, 3, 4] rfl rfl (by decide) (by decide) (by decide) (va_recv hX.1 hP (ci := 0) (q0 := 5) rfl rfl) rfl hl.1 rfl (Nat.le_of_ble_eq_true rfl) d_Reader_countWithNumber_127 ⟨Nat.zero_le _, Nat.zero_le _⟩ (fun H locs hP hD hS => ?_)
            obtain ⟨s_127, e_127⟩ : ∃ z : RS, z = sVs st (hSet (rVs st) 14 (rNb st)) := ⟨_, rfl⟩
            have hP : va_P D vwCl (rdW ad cd T s_127) H := by rw [e_127]; exact hP.sub [0, 1, 2, 3, 4, 5, 6, 7] rfl
            have hD : va_D A (rdW ad cd T s_127) := by rw [e_127]; exact hD.sub [0, 1, 2, 3, 4, 5, 6, 7] (by decide) rfl
            exact hret H locs s_127 _ _ hP hD hS (by first | (simp only [fWith, c_6, if_neg c_30, c_89, c_114, ← e_127, fStop, if_true, if_false, Bool.false_eq_true, ↓reduceIte]; done) | (simp only [fWith, c_6, if_neg c_30, c_89, c_114, ← e_127, fStop, if_true, if_false, Bool.false_eq_true, ↓reduceIte]; with_reducible rfl) | (simp only [fWith, c_6, if_neg c_30, c_89, c_114, ← e_127, fStop, if_true, if_false, Bool.false_eq_true, ↓reduceIte]; rw [e_127])) d_Reader_countWithNumber_130
        · skip
          have c_89 : (fIsW T st t_max_stale) = true := bI_1 c_89
          refine lv_aload_n hx hb d_Reader_countWithNumber_92 rfl (lv_at hl 0 rfl) ?_
          refine va_get (D := D) (ci := 1) (v := .ref (ad 5)) (C := "HeadDesk$Reader") (T := F_Reader) (N := 11) hx hb hts a_Reader hown hX.1 hP 0 rfl rfl 3 (by decide) (hts _ m_1_64) (fun _ h9 => h9) rfl d_Reader_countWithNumber_93 ?_
          refine lv_bipush (v := 13) hx hb d_Reader_countWithNumber_96 (by decide) ?_
          refine lv_aload_n hx hb d_Reader_countWithNumber_98 rfl (lv_at hl 0 rfl) ?_
          refine va_get (D := D) (ci := 1) (v := .int (rNb st)) (C := "HeadDesk$Reader") (T := F_Reader) (N := 11) hx hb hts a_Reader hown hX.1 hP 0 rfl rfl 8 (by decide) (hts _ m_1_69) (fun _ h9 => h9) rfl d_Reader_countWithNumber_99 ?_
          refine hx_Vv (wr := [(ad 0, .inr (1, [.ref (ad 1), .ref (ad 3), .ref (ad 4), .ref (ad 5), .int (rNm st), .int (rKd st), .int (rPl st), .int (rSk st), .int (rNb st), .int (rWs st), .int (rWe st)])), (ad 1, .inr (2, [.ref (ad 2), .int (T.2)])), (ad 2, .inl (cd 0, 300, .inl T.1)), (ad 3, .inl (cd 1, 100, .inl (rNs st))), (ad 4, .inl (cd 2, 100, .inl (rNe st)))]) (As := [.int 13, .int (rNb st)]) (rest := []) hI (c_Head_set (ah := ad 5) (av := ad 6) (ar := ad 7) (cv := cd 3) (cr := cd 4) (tv := 3) (tr := 4) rfl rfl (rVs st, rVr st) 13 (rNb st)) (cw_V (C := "HeadDesk$Head") 2 hts m_2_22 m_2_23 m_2_24 m_1_4 m_2_25 (by decide +kernel) ⟨by decide, by decide⟩) hX hA hP hD hS [5, 6, 7] [0, 1, 2, 3, 4] rfl rfl (by decide) (by decide) (by decide) (va_recv hX.1 hP (ci := 0) (q0 := 5) rfl rfl) rfl hl.1 rfl (Nat.le_of_ble_eq_true rfl) d_Reader_countWithNumber_102 ⟨Nat.zero_le _, Nat.zero_le _⟩ (fun H locs hP hD hS => ?_)
          obtain ⟨s_102, e_102⟩ : ∃ z : RS, z = sVs st (hSet (rVs st) 13 (rNb st)) := ⟨_, rfl⟩
          have hP : va_P D vwCl (rdW ad cd T s_102) H := by rw [e_102]; exact hP.sub [0, 1, 2, 3, 4, 5, 6, 7] rfl
          have hD : va_D A (rdW ad cd T s_102) := by rw [e_102]; exact hD.sub [0, 1, 2, 3, 4, 5, 6, 7] (by decide) rfl
          refine lv_goto (tgt := 130) hx hb d_Reader_countWithNumber_105 (by decide) ?_
          exact hret H locs s_102 _ _ hP hD hS (by first | (simp only [fWith, c_6, if_neg c_30, c_89, ← e_102, fStop, if_true, if_false, Bool.false_eq_true, ↓reduceIte]; done) | (simp only [fWith, c_6, if_neg c_30, c_89, ← e_102, fStop, if_true, if_false, Bool.false_eq_true, ↓reduceIte]; with_reducible rfl) | (simp only [fWith, c_6, if_neg c_30, c_89, ← e_102, fStop, if_true, if_false, Bool.false_eq_true, ↓reduceIte]; rw [e_102])) d_Reader_countWithNumber_130
      · skip
        have c_30 : (rKd st = 1) := c_30
        refine lv_aload_n hx hb d_Reader_countWithNumber_33 rfl (lv_at hl 0 rfl) ?_
        refine va_ldcS hx hb hown (hX.2.2.2.2.2.1 _ _ _ _ st_10) d_Reader_countWithNumber_34 ?_
        refine hx_Vz (wr := []) (As := [.ref (adK 10)]) (rest := []) hI (c_Reader_isWordL hT st (by decide) sw_10) (cw_V (C := "HeadDesk$Reader") 1 hts m_2_136 m_2_138 ms_16 m_1_2 m_2_139 (by decide +kernel) ⟨by decide, by decide⟩) hX hA hP hD hS [0, 1, 2, 3, 4, 5, 6, 7] [] rfl rfl (by decide) (by decide) (by decide) (va_recv hX.1 hP (ci := 1) (q0 := 0) rfl rfl) rfl hl.1 rfl (Nat.le_of_ble_eq_true rfl) d_Reader_countWithNumber_36 ⟨Nat.zero_le _, Nat.zero_le _⟩ (fun H locs hP hD hS => ?_)
        have hP : va_P D vwCl (rdW ad cd T st) H := hP
        have hD : va_D A (rdW ad cd T st) := hD
        refine lv_if_eq (tgt := 58) hx hb d_Reader_countWithNumber_39 (by decide) (fun c_39 => ?_) (fun c_39 => ?_)
        · skip
          have c_39 : (fIsW T st t_stale_if_error) = false := bI_0 c_39
          refine lv_aload_n hx hb d_Reader_countWithNumber_58 rfl (lv_at hl 0 rfl) ?_
          refine va_ldcS hx hb hown (hX.2.2.2.2.2.1 _ _ _ _ st_11) d_Reader_countWithNumber_59 ?_
          refine hx_Vz (wr := []) (As := [.ref (adK 11)]) (rest := []) hI (c_Reader_isWordL hT st (by decide) sw_11) (cw_V (C := "HeadDesk$Reader") 1 hts m_2_136 m_2_138 ms_16 m_1_2 m_2_139 (by decide +kernel) ⟨by decide, by decide⟩) hX hA hP hD hS [0, 1, 2, 3, 4, 5, 6, 7] [] rfl rfl (by decide) (by decide) (by decide) (va_recv hX.1 hP (ci := 1) (q0 := 0) rfl rfl) rfl hl.1 rfl (Nat.le_of_ble_eq_true rfl) d_Reader_countWithNumber_61 ⟨Nat.zero_le _, Nat.zero_le _⟩ (fun H locs hP hD hS => ?_)
          have hP : va_P D vwCl (rdW ad cd T st) H := hP
          have hD : va_D A (rdW ad cd T st) := hD
          refine lv_if_eq (tgt := 130) hx hb d_Reader_countWithNumber_64 (by decide) (fun c_64 => ?_) (fun c_64 => ?_)
          · skip
            have c_64 : (fIsW T st t_stale_while_revalidate) = false := bI_0 c_64
            exact hret H locs st _ _ hP hD hS (by first | (simp only [fWith, c_6, if_pos c_30, c_39, c_64, fStop, if_true, if_false, Bool.false_eq_true, ↓reduceIte]; done) | (simp only [fWith, c_6, if_pos c_30, c_39, c_64, fStop, if_true, if_false, Bool.false_eq_true, ↓reduceIte]; with_reducible rfl)) d_Reader_countWithNumber_130
          · skip
            have c_64 : (fIsW T st t_stale_while_revalidate) = true := bI_1 c_64
            refine lv_aload_n hx hb d_Reader_countWithNumber_67 rfl (lv_at hl 0 rfl) ?_
            refine va_get (D := D) (ci := 1) (v := .ref (ad 5)) (C := "HeadDesk$Reader") (T := F_Reader) (N := 11) hx hb hts a_Reader hown hX.1 hP 0 rfl rfl 3 (by decide) (hts _ m_1_64) (fun _ h9 => h9) rfl d_Reader_countWithNumber_68 ?_
            refine lv_bipush (v := 17) hx hb d_Reader_countWithNumber_71 (by decide) ?_
            refine lv_aload_n hx hb d_Reader_countWithNumber_73 rfl (lv_at hl 0 rfl) ?_
            refine va_get (D := D) (ci := 1) (v := .int (rNb st)) (C := "HeadDesk$Reader") (T := F_Reader) (N := 11) hx hb hts a_Reader hown hX.1 hP 0 rfl rfl 8 (by decide) (hts _ m_1_69) (fun _ h9 => h9) rfl d_Reader_countWithNumber_74 ?_
            refine hx_Vv (wr := [(ad 0, .inr (1, [.ref (ad 1), .ref (ad 3), .ref (ad 4), .ref (ad 5), .int (rNm st), .int (rKd st), .int (rPl st), .int (rSk st), .int (rNb st), .int (rWs st), .int (rWe st)])), (ad 1, .inr (2, [.ref (ad 2), .int (T.2)])), (ad 2, .inl (cd 0, 300, .inl T.1)), (ad 3, .inl (cd 1, 100, .inl (rNs st))), (ad 4, .inl (cd 2, 100, .inl (rNe st)))]) (As := [.int 17, .int (rNb st)]) (rest := []) hI (c_Head_set (ah := ad 5) (av := ad 6) (ar := ad 7) (cv := cd 3) (cr := cd 4) (tv := 3) (tr := 4) rfl rfl (rVs st, rVr st) 17 (rNb st)) (cw_V (C := "HeadDesk$Head") 2 hts m_2_22 m_2_23 m_2_24 m_1_4 m_2_25 (by decide +kernel) ⟨by decide, by decide⟩) hX hA hP hD hS [5, 6, 7] [0, 1, 2, 3, 4] rfl rfl (by decide) (by decide) (by decide) (va_recv hX.1 hP (ci := 0) (q0 := 5) rfl rfl) rfl hl.1 rfl (Nat.le_of_ble_eq_true rfl) d_Reader_countWithNumber_77 ⟨Nat.zero_le _, Nat.zero_le _⟩ (fun H locs hP hD hS => ?_)
            obtain ⟨s_77, e_77⟩ : ∃ z : RS, z = sVs st (hSet (rVs st) 17 (rNb st)) := ⟨_, rfl⟩
            have hP : va_P D vwCl (rdW ad cd T s_77) H := by rw [e_77]; exact hP.sub [0, 1, 2, 3, 4, 5, 6, 7] rfl
            have hD : va_D A (rdW ad cd T s_77) := by rw [e_77]; exact hD.sub [0, 1, 2, 3, 4, 5, 6, 7] (by decide) rfl
            refine lv_goto (tgt := 130) hx hb d_Reader_countWithNumber_80 (by decide) ?_
            exact hret H locs s_77 _ _ hP hD hS (by first | (simp only [fWith, c_6, if_pos c_30, c_39, c_64, ← e_77, fStop, if_true, if_false, Bool.false_eq_true, ↓reduceIte]; done) | (simp only [fWith, c_6, if_pos c_30, c_39, c_64, ← e_77, fStop, if_true, if_false, Bool.false_eq_true, ↓reduceIte]; with_reducible rfl) | (simp only [fWith, c_6, if_pos c_30, c_39, c_64, ← e_77, fStop, if_true, if_false, Bool.false_eq_true, ↓reduceIte]; rw [e_77])) d_Reader_countWithNumber_130
        · skip
          have c_39 : (fIsW T st t_stale_if_error) = true := bI_1 c_39
          refine lv_aload_n hx hb d_Reader_countWithNumber_42 rfl (lv_at hl 0 rfl) ?_
          refine va_get (D := D) (ci := 1) (v := .ref (ad 5)) (C := "HeadDesk$Reader") (T := F_Reader) (N := 11) hx hb hts a_Reader hown hX.1 hP 0 rfl rfl 3 (by decide) (hts _ m_1_64) (fun _ h9 => h9) rfl d_Reader_countWithNumber_43 ?_
          refine lv_bipush (v := 16) hx hb d_Reader_countWithNumber_46 (by decide) ?_
          refine lv_aload_n hx hb d_Reader_countWithNumber_48 rfl (lv_at hl 0 rfl) ?_
          refine va_get (D := D) (ci := 1) (v := .int (rNb st)) (C := "HeadDesk$Reader") (T := F_Reader) (N := 11) hx hb hts a_Reader hown hX.1 hP 0 rfl rfl 8 (by decide) (hts _ m_1_69) (fun _ h9 => h9) rfl d_Reader_countWithNumber_49 ?_
          refine hx_Vv (wr := [(ad 0, .inr (1, [.ref (ad 1), .ref (ad 3), .ref (ad 4), .ref (ad 5), .int (rNm st), .int (rKd st), .int (rPl st), .int (rSk st), .int (rNb st), .int (rWs st), .int (rWe st)])), (ad 1, .inr (2, [.ref (ad 2), .int (T.2)])), (ad 2, .inl (cd 0, 300, .inl T.1)), (ad 3, .inl (cd 1, 100, .inl (rNs st))), (ad 4, .inl (cd 2, 100, .inl (rNe st)))]) (As := [.int 16, .int (rNb st)]) (rest := []) hI (c_Head_set (ah := ad 5) (av := ad 6) (ar := ad 7) (cv := cd 3) (cr := cd 4) (tv := 3) (tr := 4) rfl rfl (rVs st, rVr st) 16 (rNb st)) (cw_V (C := "HeadDesk$Head") 2 hts m_2_22 m_2_23 m_2_24 m_1_4 m_2_25 (by decide +kernel) ⟨by decide, by decide⟩) hX hA hP hD hS [5, 6, 7] [0, 1, 2, 3, 4] rfl rfl (by decide) (by decide) (by decide) (va_recv hX.1 hP (ci := 0) (q0 := 5) rfl rfl) rfl hl.1 rfl (Nat.le_of_ble_eq_true rfl) d_Reader_countWithNumber_52 ⟨Nat.zero_le _, Nat.zero_le _⟩ (fun H locs hP hD hS => ?_)
          obtain ⟨s_52, e_52⟩ : ∃ z : RS, z = sVs st (hSet (rVs st) 16 (rNb st)) := ⟨_, rfl⟩
          have hP : va_P D vwCl (rdW ad cd T s_52) H := by rw [e_52]; exact hP.sub [0, 1, 2, 3, 4, 5, 6, 7] rfl
          have hD : va_D A (rdW ad cd T s_52) := by rw [e_52]; exact hD.sub [0, 1, 2, 3, 4, 5, 6, 7] (by decide) rfl
          refine lv_goto (tgt := 130) hx hb d_Reader_countWithNumber_55 (by decide) ?_
          exact hret H locs s_52 _ _ hP hD hS (by first | (simp only [fWith, c_6, if_pos c_30, c_39, ← e_52, fStop, if_true, if_false, Bool.false_eq_true, ↓reduceIte]; done) | (simp only [fWith, c_6, if_pos c_30, c_39, ← e_52, fStop, if_true, if_false, Bool.false_eq_true, ↓reduceIte]; with_reducible rfl) | (simp only [fWith, c_6, if_pos c_30, c_39, ← e_52, fStop, if_true, if_false, Bool.false_eq_true, ↓reduceIte]; rw [e_52])) d_Reader_countWithNumber_130
    · skip
      have c_6 : (fIsW T st t_max_age) = true := bI_1 c_6
      refine lv_aload_n hx hb d_Reader_countWithNumber_9 rfl (lv_at hl 0 rfl) ?_
      refine va_get (D := D) (ci := 1) (v := .ref (ad 5)) (C := "HeadDesk$Reader") (T := F_Reader) (N := 11) hx hb hts a_Reader hown hX.1 hP 0 rfl rfl 3 (by decide) (hts _ m_1_64) (fun _ h9 => h9) rfl d_Reader_countWithNumber_10 ?_
      refine lv_bipush (v := 12) hx hb d_Reader_countWithNumber_13 (by decide) ?_
      refine lv_aload_n hx hb d_Reader_countWithNumber_15 rfl (lv_at hl 0 rfl) ?_
      refine va_get (D := D) (ci := 1) (v := .int (rNb st)) (C := "HeadDesk$Reader") (T := F_Reader) (N := 11) hx hb hts a_Reader hown hX.1 hP 0 rfl rfl 8 (by decide) (hts _ m_1_69) (fun _ h9 => h9) rfl d_Reader_countWithNumber_16 ?_
      refine hx_Vv (wr := [(ad 0, .inr (1, [.ref (ad 1), .ref (ad 3), .ref (ad 4), .ref (ad 5), .int (rNm st), .int (rKd st), .int (rPl st), .int (rSk st), .int (rNb st), .int (rWs st), .int (rWe st)])), (ad 1, .inr (2, [.ref (ad 2), .int (T.2)])), (ad 2, .inl (cd 0, 300, .inl T.1)), (ad 3, .inl (cd 1, 100, .inl (rNs st))), (ad 4, .inl (cd 2, 100, .inl (rNe st)))]) (As := [.int 12, .int (rNb st)]) (rest := []) hI (c_Head_set (ah := ad 5) (av := ad 6) (ar := ad 7) (cv := cd 3) (cr := cd 4) (tv := 3) (tr := 4) rfl rfl (rVs st, rVr st) 12 (rNb st)) (cw_V (C := "HeadDesk$Head") 2 hts m_2_22 m_2_23 m_2_24 m_1_4 m_2_25 (by decide +kernel) ⟨by decide, by decide⟩) hX hA hP hD hS [5, 6, 7] [0, 1, 2, 3, 4] rfl rfl (by decide) (by decide) (by decide) (va_recv hX.1 hP (ci := 0) (q0 := 5) rfl rfl) rfl hl.1 rfl (Nat.le_of_ble_eq_true rfl) d_Reader_countWithNumber_19 ⟨Nat.zero_le _, Nat.zero_le _⟩ (fun H locs hP hD hS => ?_)
      obtain ⟨s_19, e_19⟩ : ∃ z : RS, z = sVs st (hSet (rVs st) 12 (rNb st)) := ⟨_, rfl⟩
      have hP : va_P D vwCl (rdW ad cd T s_19) H := by rw [e_19]; exact hP.sub [0, 1, 2, 3, 4, 5, 6, 7] rfl
      have hD : va_D A (rdW ad cd T s_19) := by rw [e_19]; exact hD.sub [0, 1, 2, 3, 4, 5, 6, 7] (by decide) rfl
      refine lv_goto (tgt := 130) hx hb d_Reader_countWithNumber_22 (by decide) ?_
      exact hret H locs s_19 _ _ hP hD hS (by first | (simp only [fWith, c_6, ← e_19, fStop, if_true, if_false, Bool.false_eq_true, ↓reduceIte]; done) | (simp only [fWith, c_6, ← e_19, fStop, if_true, if_false, Bool.false_eq_true, ↓reduceIte]; with_reducible rfl) | (simp only [fWith, c_6, ← e_19, fStop, if_true, if_false, Bool.false_eq_true, ↓reduceIte]; rw [e_19])) d_Reader_countWithNumber_130
  rw [hH, hlo] at goal
  exact goal
