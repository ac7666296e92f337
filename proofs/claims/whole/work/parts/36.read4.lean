variable {l : Launch} {D : va_G} {ad : Nat → Nat} {cd : Nat → ClassId} {adK adV : Nat → Nat} {tF : Nat} {T : TX} {tys : List (ClassId × FieldType)}

set_option maxHeartbeats 4000000 in
set_option maxRecDepth 100000 in
theorem c_Reader_readRange (hT : T.2 ≤ 300) (st : RS)  : hx_Mz l D (tyH cd) adK adV tF (rdW ad cd T) y_Reader_readRange w_Reader_readRange (rmD 6) [.ref (ad 0)] st ((fRng T st t_bytes).1) ((fRng T st t_bytes).2) := by
  refine hx_Mz.of (cc := b_Reader_readRange) (maxL := 3) (by decide) rfl (Nat.le_of_ble_eq_true rfl) ?_
  intro p e s m below meth c A Q ls hI hX hA hP hD hS hl hret
  obtain ⟨hx, hb, hml, hown, hts⟩ := id hI
  have hts : ∀ w ∈ aw, w.before ([.ref (ad 0)] : List Value).toArray s = true := fun w h => hts w (List.mem_cons_of_mem _ h)
  have hown : s.vm.findClass "HeadDesk$Reader" = some m.cls := hown
  have hI : hx_In p s m ([.ref (ad 0)] : List Value).toArray c b_Reader_readRange 3 "HeadDesk$Reader" aw := ⟨hx, hb, hml, hown, hts⟩
  have hP : va_P D vwCl (rdW ad cd T st) s.heap := hP
  obtain ⟨H, hH⟩ : ∃ H, H = s.heap := ⟨_, rfl⟩
  obtain ⟨locs, hlo⟩ : ∃ locs : List Loc, locs = [] := ⟨_, rfl⟩
  have hS : va_S A s.heap H locs := by rw [hH, hlo]; exact hS
  have hP : va_P D vwCl (rdW ad cd T st) H := by rw [hH]; exact hP
  have hl : lv_has ls 3 [(0, .ref (ad 0))] := hl
  have goal : W p l e (rmD 6) s m ([.ref (ad 0)] : List Value).toArray below meth c H locs 0 0 Q (F0 m 0 ls []) := by
    refine lv_aload_n hx hb d_Reader_readRange_0 rfl (lv_at hl 0 rfl) ?_
    refine va_ldcS hx hb hown (hX.2.2.2.2.2.1 _ _ _ _ st_14) d_Reader_readRange_1 ?_
    refine hx_Vz (wr := []) (As := [.ref (adK 14)]) (rest := []) hI (c_Reader_takeAllL hT st (by decide) sw_14) (cw_V (C := "HeadDesk$Reader") 1 hts m_2_27 m_2_29 ms_4 m_1_2 m_2_30 (by decide +kernel) ⟨by decide, by decide⟩) hX hA hP hD hS [0, 1, 2, 3, 4, 5, 6, 7] [] rfl rfl (by decide) (by decide) (by decide) (va_recv hX.1 hP (ci := 1) (q0 := 0) rfl rfl) rfl hl.1 rfl (Nat.le_of_ble_eq_true rfl) d_Reader_readRange_3 ⟨Nat.zero_le _, Nat.zero_le _⟩ (fun H locs hP hD hS => ?_)
    obtain ⟨s_3, e_3⟩ : ∃ z : RS, z = (fAll T t_bytes st).2 := ⟨_, rfl⟩
    have hP : va_P D vwCl (rdW ad cd T s_3) H := by rw [e_3]; exact hP
    have hD : va_D A (rdW ad cd T s_3) := by rw [e_3]; exact hD
    refine lv_if_ne (tgt := 11) hx hb d_Reader_readRange_6 (by decide) (fun c_6 => ?_) (fun c_6 => ?_)
    · skip
      have c_6 : ((fAll T t_bytes st).1) = true := bI_1 c_6
      refine lv_aload_n hx hb d_Reader_readRange_11 rfl (lv_at hl 0 rfl) ?_
      refine lv_bipush (v := 45) hx hb d_Reader_readRange_12 (by decide) ?_
      refine hx_Vz (wr := []) (As := [.int 45]) (rest := []) hI (c_Reader_skip hT s_3 45) (cw_V (C := "HeadDesk$Reader") 1 hts m_2_108 m_2_110 ms_10 m_1_2 m_2_111 (by decide +kernel) ⟨by decide, by decide⟩) hX hA hP hD hS [0, 1, 2, 3, 4, 5, 6, 7] [] rfl rfl (by decide) (by decide) (by decide) (va_recv hX.1 hP (ci := 1) (q0 := 0) rfl rfl) rfl hl.1 rfl (Nat.le_of_ble_eq_true rfl) d_Reader_readRange_14 ⟨Nat.zero_le _, Nat.zero_le _⟩ (fun H locs hP hD hS => ?_)
      obtain ⟨s_14, e_14⟩ : ∃ z : RS, z = (fSkip T s_3 45).2 := ⟨_, rfl⟩
      have hP : va_P D vwCl (rdW ad cd T s_14) H := by rw [e_14]; exact hP
      have hD : va_D A (rdW ad cd T s_14) := by rw [e_14]; exact hD
      refine lv_istore_n (lv' := [(1, .int (bI (fSkip T s_3 45).1)), (0, .ref (ad 0))]) hx hb d_Reader_readRange_17 rfl hl (by decide) rfl (fun ls hl => ?_)
      refine lv_aload_n hx hb d_Reader_readRange_18 rfl (lv_at hl 1 rfl) ?_
      refine lv_ldc (v := 99999) hx hb hown (hts _ m_2_152) d_Reader_readRange_19 ?_
      refine hx_Vz (wr := []) (As := [.int 99999]) (rest := []) hI (c_Reader_takeNumber hT s_14 99999) (cw_V (C := "HeadDesk$Reader") 1 hts m_2_101 m_2_103 ms_9 m_1_2 m_2_104 (by decide +kernel) ⟨by decide, by decide⟩) hX hA hP hD hS [0, 1, 2, 3, 4, 5, 6, 7] [] rfl rfl (by decide) (by decide) (by decide) (va_recv hX.1 hP (ci := 1) (q0 := 0) rfl rfl) rfl hl.1 rfl (Nat.le_of_ble_eq_true rfl) d_Reader_readRange_21 ⟨Nat.zero_le _, Nat.zero_le _⟩ (fun H locs hP hD hS => ?_)
      obtain ⟨s_21, e_21⟩ : ∃ z : RS, z = (fNum T s_14 99999).2 := ⟨_, rfl⟩
      have hP : va_P D vwCl (rdW ad cd T s_21) H := by rw [e_21]; exact hP
      have hD : va_D A (rdW ad cd T s_21) := by rw [e_21]; exact hD
      refine lv_if_ne (tgt := 29) hx hb d_Reader_readRange_24 (by decide) (fun c_24 => ?_) (fun c_24 => ?_)
      · skip
        have c_24 : ((fNum T s_14 99999).1) = true := bI_1 c_24
        refine lv_aload_n hx hb d_Reader_readRange_29 rfl (lv_at hl 1 rfl) ?_
        refine va_get (D := D) (ci := 1) (v := .int (rNb s_21)) (C := "HeadDesk$Reader") (T := F_Reader) (N := 11) hx hb hts a_Reader hown hX.1 hP 0 rfl rfl 8 (by decide) (hts _ m_1_69) (fun _ h9 => h9) rfl d_Reader_readRange_30 ?_
        refine lv_istore_n (lv' := [(2, .int (rNb s_21)), (1, .int (bI (fSkip T s_3 45).1)), (0, .ref (ad 0))]) hx hb d_Reader_readRange_33 rfl hl (by decide) rfl (fun ls hl => ?_)
        refine lv_iload_n hx hb d_Reader_readRange_34 rfl (lv_at hl 1 rfl) ?_
        refine lv_if_eq (tgt := 50) hx hb d_Reader_readRange_35 (by decide) (fun c_35 => ?_) (fun c_35 => ?_)
        · skip
          have c_35 : ((fSkip T s_3 45).1) = false := bI_0 c_35
          refine lv_aload_n hx hb d_Reader_readRange_50 rfl (lv_at hl 2 rfl) ?_
          refine lv_bipush (v := 45) hx hb d_Reader_readRange_51 (by decide) ?_
          refine hx_Vz (wr := []) (As := [.int 45]) (rest := []) hI (c_Reader_take hT s_21 45) (cw_V (C := "HeadDesk$Reader") 1 hts m_2_93 m_2_95 ms_7 m_1_2 m_2_96 (by decide +kernel) ⟨by decide, by decide⟩) hX hA hP hD hS [0, 1, 2, 3, 4, 5, 6, 7] [] rfl rfl (by decide) (by decide) (by decide) (va_recv hX.1 hP (ci := 1) (q0 := 0) rfl rfl) rfl hl.1 rfl (Nat.le_of_ble_eq_true rfl) d_Reader_readRange_53 ⟨Nat.zero_le _, Nat.zero_le _⟩ (fun H locs hP hD hS => ?_)
          obtain ⟨s_53, e_53⟩ : ∃ z : RS, z = (fTake T s_21 45).2 := ⟨_, rfl⟩
          have hP : va_P D vwCl (rdW ad cd T s_53) H := by rw [e_53]; exact hP
          have hD : va_D A (rdW ad cd T s_53) := by rw [e_53]; exact hD
          refine lv_if_ne (tgt := 61) hx hb d_Reader_readRange_56 (by decide) (fun c_56 => ?_) (fun c_56 => ?_)
          · skip
            have c_56 : ((fTake T s_21 45).1) = true := bI_1 c_56
            refine lv_aload_n hx hb d_Reader_readRange_61 rfl (lv_at hl 2 rfl) ?_
            refine hx_Vi (wr := []) (As := []) (rest := []) hI (c_Reader_mark hT s_53 ) (cw_V (C := "HeadDesk$Reader") 0 hts m_2_41 m_2_43 ms_5 m_1_2 m_2_44 (by decide +kernel) ⟨by decide, by decide⟩) hX hA hP hD hS [0, 1, 2, 3, 4, 5, 6, 7] [] rfl rfl (by decide) (by decide) (by decide) (va_recv hX.1 hP (ci := 1) (q0 := 0) rfl rfl) rfl hl.1 rfl (Nat.le_of_ble_eq_true rfl) d_Reader_readRange_62 ⟨Nat.zero_le _, Nat.zero_le _⟩ (fun H locs hP hD hS => ?_)
            have hP : va_P D vwCl (rdW ad cd T s_53) H := hP
            have hD : va_D A (rdW ad cd T s_53) := hD
            refine hx_Sz (wr := [(ad 0, .inr (1, [.ref (ad 1), .ref (ad 3), .ref (ad 4), .ref (ad 5), .int (rNm s_53), .int (rKd s_53), .int (rPl s_53), .int (rSk s_53), .int (rNb s_53), .int (rWs s_53), .int (rWe s_53)])), (ad 1, .inr (2, [.ref (ad 2), .int (T.2)])), (ad 2, .inl (cd 0, 300, .inl T.1)), (ad 3, .inl (cd 1, 100, .inl (rNs s_53))), (ad 4, .inl (cd 2, 100, .inl (rNe s_53))), (ad 5, .inr (0, [.ref (ad 6), .ref (ad 7)])), (ad 6, .inl (cd 3, 18, .inl (rVs s_53))), (ad 7, .inl (cd 4, 8, .inl (rVr s_53)))]) (As := [.int (fMark T s_53)]) (rest := []) hI (c_Reader_isDigit (fMark T s_53)) (cw_S 1 hts m_2_105 m_2_106 m_1_2 m_2_107 (by decide +kernel) ⟨by decide, by decide⟩) hX hA hP hD hS [] [0, 1, 2, 3, 4, 5, 6, 7] rfl rfl (by decide) (by decide) (by decide) rfl hl.1 rfl (Nat.le_of_ble_eq_true rfl) d_Reader_readRange_65 ⟨Nat.zero_le _, Nat.zero_le _⟩ (fun H locs hP hD hS => ?_)
            have hP : va_P D vwCl (rdW ad cd T s_53) H := hP.sub [0, 1, 2, 3, 4, 5, 6, 7] rfl
            have hD : va_D A (rdW ad cd T s_53) := hD.sub [0, 1, 2, 3, 4, 5, 6, 7] (by decide) rfl
            refine lv_if_ne (tgt := 83) hx hb d_Reader_readRange_68 (by decide) (fun c_68 => ?_) (fun c_68 => ?_)
            · skip
              have c_68 : (isD (fMark T s_53)) = true := bI_1 c_68
              refine lv_aload_n hx hb d_Reader_readRange_83 rfl (lv_at hl 2 rfl) ?_
              refine lv_ldc (v := 99999) hx hb hown (hts _ m_2_152) d_Reader_readRange_84 ?_
              refine hx_Vz (wr := []) (As := [.int 99999]) (rest := []) hI (c_Reader_takeNumber hT s_53 99999) (cw_V (C := "HeadDesk$Reader") 1 hts m_2_101 m_2_103 ms_9 m_1_2 m_2_104 (by decide +kernel) ⟨by decide, by decide⟩) hX hA hP hD hS [0, 1, 2, 3, 4, 5, 6, 7] [] rfl rfl (by decide) (by decide) (by decide) (va_recv hX.1 hP (ci := 1) (q0 := 0) rfl rfl) rfl hl.1 rfl (Nat.le_of_ble_eq_true rfl) d_Reader_readRange_86 ⟨Nat.zero_le _, Nat.zero_le _⟩ (fun H locs hP hD hS => ?_)
              obtain ⟨s_86, e_86⟩ : ∃ z : RS, z = (fNum T s_53 99999).2 := ⟨_, rfl⟩
              have hP : va_P D vwCl (rdW ad cd T s_86) H := by rw [e_86]; exact hP
              have hD : va_D A (rdW ad cd T s_86) := by rw [e_86]; exact hD
              refine lv_if_ne (tgt := 94) hx hb d_Reader_readRange_89 (by decide) (fun c_89 => ?_) (fun c_89 => ?_)
              · skip
                have c_89 : ((fNum T s_53 99999).1) = true := bI_1 c_89
                refine lv_iload_n hx hb d_Reader_readRange_94 rfl (lv_at hl 0 rfl) ?_
                refine lv_aload_n hx hb d_Reader_readRange_95 rfl (lv_at hl 2 rfl) ?_
                refine va_get (D := D) (ci := 1) (v := .int (rNb s_86)) (C := "HeadDesk$Reader") (T := F_Reader) (N := 11) hx hb hts a_Reader hown hX.1 hP 0 rfl rfl 8 (by decide) (hts _ m_1_69) (fun _ h9 => h9) rfl d_Reader_readRange_96 ?_
                refine lv_icmp_gt (tgt := 115) hx hb d_Reader_readRange_99 (by decide) (fun c_99 => ?_) (fun c_99 => ?_)
                · skip
                  have c_99 : (rNb s_86 < rNb s_21) := c_99
                  refine lv_iconst (v := 1) hx hb d_Reader_readRange_115 (by decide) ?_
                  exact hret H locs s_86 true _ _ hP hD hS (pr2 (by first | (simp only [fRng, fRngE, c_6, c_24, c_35, c_56, c_68, c_89, if_pos c_99, bnd_t c_6, bnd_t c_24, bnd_f c_35, bnd_t c_56, bnd_t c_89, ← e_3, ← e_14, ← e_21, ← e_53, ← e_86, fStop, if_true, if_false, Bool.false_eq_true, ↓reduceIte]; done) | (simp only [fRng, fRngE, c_6, c_24, c_35, c_56, c_68, c_89, if_pos c_99, bnd_t c_6, bnd_t c_24, bnd_f c_35, bnd_t c_56, bnd_t c_89, ← e_3, ← e_14, ← e_21, ← e_53, ← e_86, fStop, if_true, if_false, Bool.false_eq_true, ↓reduceIte]; with_reducible rfl) | (simp only [fRng, fRngE, c_6, c_24, c_35, c_56, c_68, c_89, if_pos c_99, bnd_t c_6, bnd_t c_24, bnd_f c_35, bnd_t c_56, bnd_t c_89, ← e_3, ← e_14, ← e_21, ← e_53, ← e_86, fStop, if_true, if_false, Bool.false_eq_true, ↓reduceIte]; rw [e_86]))) d_Reader_readRange_116
                · skip
                  have c_99 : ¬ (rNb s_86 < rNb s_21) := c_99
                  refine lv_aload_n hx hb d_Reader_readRange_102 rfl (lv_at hl 2 rfl) ?_
                  refine va_get (D := D) (ci := 1) (v := .ref (ad 5)) (C := "HeadDesk$Reader") (T := F_Reader) (N := 11) hx hb hts a_Reader hown hX.1 hP 0 rfl rfl 3 (by decide) (hts _ m_1_64) (fun _ h9 => h9) rfl d_Reader_readRange_103 ?_
                  refine lv_iconst (v := 1) hx hb d_Reader_readRange_106 (by decide) ?_
                  refine lv_iload_n hx hb d_Reader_readRange_107 rfl (lv_at hl 0 rfl) ?_
                  refine lv_aload_n hx hb d_Reader_readRange_108 rfl (lv_at hl 2 rfl) ?_
                  refine va_get (D := D) (ci := 1) (v := .int (rNb s_86)) (C := "HeadDesk$Reader") (T := F_Reader) (N := 11) hx hb hts a_Reader hown hX.1 hP 0 rfl rfl 8 (by decide) (hts _ m_1_69) (fun _ h9 => h9) rfl d_Reader_readRange_109 ?_
                  refine hx_Vv (wr := [(ad 0, .inr (1, [.ref (ad 1), .ref (ad 3), .ref (ad 4), .ref (ad 5), .int (rNm s_86), .int (rKd s_86), .int (rPl s_86), .int (rSk s_86), .int (rNb s_86), .int (rWs s_86), .int (rWe s_86)])), (ad 1, .inr (2, [.ref (ad 2), .int (T.2)])), (ad 2, .inl (cd 0, 300, .inl T.1)), (ad 3, .inl (cd 1, 100, .inl (rNs s_86))), (ad 4, .inl (cd 2, 100, .inl (rNe s_86)))]) (As := [.int 1, .int (rNb s_21), .int (rNb s_86)]) (rest := []) hI (c_Head_setRange (ah := ad 5) (av := ad 6) (ar := ad 7) (cv := cd 3) (cr := cd 4) (tv := 3) (tr := 4) rfl rfl (rVs s_86, rVr s_86) 1 (rNb s_21) (rNb s_86)) (cw_V (C := "HeadDesk$Head") 3 hts m_2_167 m_2_168 m_2_169 m_1_4 m_2_170 (by decide +kernel) ⟨by decide, by decide⟩) hX hA hP hD hS [5, 6, 7] [0, 1, 2, 3, 4] rfl rfl (by decide) (by decide) (by decide) (va_recv hX.1 hP (ci := 0) (q0 := 5) rfl rfl) rfl hl.1 rfl (Nat.le_of_ble_eq_true rfl) d_Reader_readRange_112 ⟨Nat.zero_le _, Nat.zero_le _⟩ (fun H locs hP hD hS => ?_)
                  obtain ⟨s_112, e_112⟩ : ∃ z : RS, z = sVs s_86 (hRng (rVs s_86) 1 (rNb s_21) (rNb s_86)) := ⟨_, rfl⟩
                  have hP : va_P D vwCl (rdW ad cd T s_112) H := by rw [e_112]; exact hP.sub [0, 1, 2, 3, 4, 5, 6, 7] rfl
                  have hD : va_D A (rdW ad cd T s_112) := by rw [e_112]; exact hD.sub [0, 1, 2, 3, 4, 5, 6, 7] (by decide) rfl
                  refine lv_iconst (v := 1) hx hb d_Reader_readRange_115 (by decide) ?_
                  exact hret H locs s_112 true _ _ hP hD hS (pr2 (by first | (simp only [fRng, fRngE, c_6, c_24, c_35, c_56, c_68, c_89, if_neg c_99, bnd_t c_6, bnd_t c_24, bnd_f c_35, bnd_t c_56, bnd_t c_89, ← e_3, ← e_14, ← e_21, ← e_53, ← e_86, ← e_112, fStop, if_true, if_false, Bool.false_eq_true, ↓reduceIte]; done) | (simp only [fRng, fRngE, c_6, c_24, c_35, c_56, c_68, c_89, if_neg c_99, bnd_t c_6, bnd_t c_24, bnd_f c_35, bnd_t c_56, bnd_t c_89, ← e_3, ← e_14, ← e_21, ← e_53, ← e_86, ← e_112, fStop, if_true, if_false, Bool.false_eq_true, ↓reduceIte]; with_reducible rfl) | (simp only [fRng, fRngE, c_6, c_24, c_35, c_56, c_68, c_89, if_neg c_99, bnd_t c_6, bnd_t c_24, bnd_f c_35, bnd_t c_56, bnd_t c_89, ← e_3, ← e_14, ← e_21, ← e_53, ← e_86, ← e_112, fStop, if_true, if_false, Bool.false_eq_true, ↓reduceIte]; rw [e_112]))) d_Reader_readRange_116
              · skip
                have c_89 : ((fNum T s_53 99999).1) = false := bI_0 c_89
                refine lv_iconst (v := 0) hx hb d_Reader_readRange_92 (by decide) ?_
                exact hret H locs s_86 false _ _ hP hD hS (pr2 (by first | (simp only [fRng, fRngE, c_6, c_24, c_35, c_56, c_68, c_89, bnd_t c_6, bnd_t c_24, bnd_f c_35, bnd_t c_56, bnd_f c_89, ← e_3, ← e_14, ← e_21, ← e_53, ← e_86, fStop, if_true, if_false, Bool.false_eq_true, ↓reduceIte]; done) | (simp only [fRng, fRngE, c_6, c_24, c_35, c_56, c_68, c_89, bnd_t c_6, bnd_t c_24, bnd_f c_35, bnd_t c_56, bnd_f c_89, ← e_3, ← e_14, ← e_21, ← e_53, ← e_86, fStop, if_true, if_false, Bool.false_eq_true, ↓reduceIte]; with_reducible rfl) | (simp only [fRng, fRngE, c_6, c_24, c_35, c_56, c_68, c_89, bnd_t c_6, bnd_t c_24, bnd_f c_35, bnd_t c_56, bnd_f c_89, ← e_3, ← e_14, ← e_21, ← e_53, ← e_86, fStop, if_true, if_false, Bool.false_eq_true, ↓reduceIte]; rw [e_86]))) d_Reader_readRange_93
            · skip
              have c_68 : (isD (fMark T s_53)) = false := bI_0 c_68
              refine lv_aload_n hx hb d_Reader_readRange_71 rfl (lv_at hl 2 rfl) ?_
              refine va_get (D := D) (ci := 1) (v := .ref (ad 5)) (C := "HeadDesk$Reader") (T := F_Reader) (N := 11) hx hb hts a_Reader hown hX.1 hP 0 rfl rfl 3 (by decide) (hts _ m_1_64) (fun _ h9 => h9) rfl d_Reader_readRange_72 ?_
              refine lv_iconst (v := 2) hx hb d_Reader_readRange_75 (by decide) ?_
              refine lv_iload_n hx hb d_Reader_readRange_76 rfl (lv_at hl 0 rfl) ?_
              refine lv_iconst (v := (-1)) hx hb d_Reader_readRange_77 (by decide) ?_
              refine hx_Vv (wr := [(ad 0, .inr (1, [.ref (ad 1), .ref (ad 3), .ref (ad 4), .ref (ad 5), .int (rNm s_53), .int (rKd s_53), .int (rPl s_53), .int (rSk s_53), .int (rNb s_53), .int (rWs s_53), .int (rWe s_53)])), (ad 1, .inr (2, [.ref (ad 2), .int (T.2)])), (ad 2, .inl (cd 0, 300, .inl T.1)), (ad 3, .inl (cd 1, 100, .inl (rNs s_53))), (ad 4, .inl (cd 2, 100, .inl (rNe s_53)))]) (As := [.int 2, .int (rNb s_21), .int (-1)]) (rest := []) hI (c_Head_setRange (ah := ad 5) (av := ad 6) (ar := ad 7) (cv := cd 3) (cr := cd 4) (tv := 3) (tr := 4) rfl rfl (rVs s_53, rVr s_53) 2 (rNb s_21) (-1)) (cw_V (C := "HeadDesk$Head") 3 hts m_2_167 m_2_168 m_2_169 m_1_4 m_2_170 (by decide +kernel) ⟨by decide, by decide⟩) hX hA hP hD hS [5, 6, 7] [0, 1, 2, 3, 4] rfl rfl (by decide) (by decide) (by decide) (va_recv hX.1 hP (ci := 0) (q0 := 5) rfl rfl) rfl hl.1 rfl (Nat.le_of_ble_eq_true rfl) d_Reader_readRange_78 ⟨Nat.zero_le _, Nat.zero_le _⟩ (fun H locs hP hD hS => ?_)
              obtain ⟨s_78, e_78⟩ : ∃ z : RS, z = sVs s_53 (hRng (rVs s_53) 2 (rNb s_21) (-1)) := ⟨_, rfl⟩
              have hP : va_P D vwCl (rdW ad cd T s_78) H := by rw [e_78]; exact hP.sub [0, 1, 2, 3, 4, 5, 6, 7] rfl
              have hD : va_D A (rdW ad cd T s_78) := by rw [e_78]; exact hD.sub [0, 1, 2, 3, 4, 5, 6, 7] (by decide) rfl
              refine lv_iconst (v := 1) hx hb d_Reader_readRange_81 (by decide) ?_
              exact hret H locs s_78 true _ _ hP hD hS (pr2 (by first | (simp only [fRng, fRngE, c_6, c_24, c_35, c_56, c_68, bnd_t c_6, bnd_t c_24, bnd_f c_35, bnd_t c_56, ← e_3, ← e_14, ← e_21, ← e_53, ← e_78, fStop, if_true, if_false, Bool.false_eq_true, ↓reduceIte]; done) | (simp only [fRng, fRngE, c_6, c_24, c_35, c_56, c_68, bnd_t c_6, bnd_t c_24, bnd_f c_35, bnd_t c_56, ← e_3, ← e_14, ← e_21, ← e_53, ← e_78, fStop, if_true, if_false, Bool.false_eq_true, ↓reduceIte]; with_reducible rfl) | (simp only [fRng, fRngE, c_6, c_24, c_35, c_56, c_68, bnd_t c_6, bnd_t c_24, bnd_f c_35, bnd_t c_56, ← e_3, ← e_14, ← e_21, ← e_53, ← e_78, fStop, if_true, if_false, Bool.false_eq_true, ↓reduceIte]; rw [e_78]))) d_Reader_readRange_82
          · skip
            have c_56 : ((fTake T s_21 45).1) = false := bI_0 c_56
            refine lv_iconst (v := 0) hx hb d_Reader_readRange_59 (by decide) ?_
            exact hret H locs s_53 false _ _ hP hD hS (pr2 (by first | (simp only [fRng, fRngE, c_6, c_24, c_35, c_56, bnd_t c_6, bnd_t c_24, bnd_f c_35, bnd_f c_56, ← e_3, ← e_14, ← e_21, ← e_53, fStop, if_true, if_false, Bool.false_eq_true, ↓reduceIte]; done) | (simp only [fRng, fRngE, c_6, c_24, c_35, c_56, bnd_t c_6, bnd_t c_24, bnd_f c_35, bnd_f c_56, ← e_3, ← e_14, ← e_21, ← e_53, fStop, if_true, if_false, Bool.false_eq_true, ↓reduceIte]; with_reducible rfl) | (simp only [fRng, fRngE, c_6, c_24, c_35, c_56, bnd_t c_6, bnd_t c_24, bnd_f c_35, bnd_f c_56, ← e_3, ← e_14, ← e_21, ← e_53, fStop, if_true, if_false, Bool.false_eq_true, ↓reduceIte]; rw [e_53]))) d_Reader_readRange_60
        · skip
          have c_35 : ((fSkip T s_3 45).1) = true := bI_1 c_35
          refine lv_aload_n hx hb d_Reader_readRange_38 rfl (lv_at hl 2 rfl) ?_
          refine va_get (D := D) (ci := 1) (v := .ref (ad 5)) (C := "HeadDesk$Reader") (T := F_Reader) (N := 11) hx hb hts a_Reader hown hX.1 hP 0 rfl rfl 3 (by decide) (hts _ m_1_64) (fun _ h9 => h9) rfl d_Reader_readRange_39 ?_
          refine lv_iconst (v := 3) hx hb d_Reader_readRange_42 (by decide) ?_
          refine lv_iload_n hx hb d_Reader_readRange_43 rfl (lv_at hl 0 rfl) ?_
          refine lv_iconst (v := (-1)) hx hb d_Reader_readRange_44 (by decide) ?_
          refine hx_Vv (wr := [(ad 0, .inr (1, [.ref (ad 1), .ref (ad 3), .ref (ad 4), .ref (ad 5), .int (rNm s_21), .int (rKd s_21), .int (rPl s_21), .int (rSk s_21), .int (rNb s_21), .int (rWs s_21), .int (rWe s_21)])), (ad 1, .inr (2, [.ref (ad 2), .int (T.2)])), (ad 2, .inl (cd 0, 300, .inl T.1)), (ad 3, .inl (cd 1, 100, .inl (rNs s_21))), (ad 4, .inl (cd 2, 100, .inl (rNe s_21)))]) (As := [.int 3, .int (rNb s_21), .int (-1)]) (rest := []) hI (c_Head_setRange (ah := ad 5) (av := ad 6) (ar := ad 7) (cv := cd 3) (cr := cd 4) (tv := 3) (tr := 4) rfl rfl (rVs s_21, rVr s_21) 3 (rNb s_21) (-1)) (cw_V (C := "HeadDesk$Head") 3 hts m_2_167 m_2_168 m_2_169 m_1_4 m_2_170 (by decide +kernel) ⟨by decide, by decide⟩) hX hA hP hD hS [5, 6, 7] [0, 1, 2, 3, 4] rfl rfl (by decide) (by decide) (by decide) (va_recv hX.1 hP (ci := 0) (q0 := 5) rfl rfl) rfl hl.1 rfl (Nat.le_of_ble_eq_true rfl) d_Reader_readRange_45 ⟨Nat.zero_le _, Nat.zero_le _⟩ (fun H locs hP hD hS => ?_)
          obtain ⟨s_45, e_45⟩ : ∃ z : RS, z = sVs s_21 (hRng (rVs s_21) 3 (rNb s_21) (-1)) := ⟨_, rfl⟩
          have hP : va_P D vwCl (rdW ad cd T s_45) H := by rw [e_45]; exact hP.sub [0, 1, 2, 3, 4, 5, 6, 7] rfl
          have hD : va_D A (rdW ad cd T s_45) := by rw [e_45]; exact hD.sub [0, 1, 2, 3, 4, 5, 6, 7] (by decide) rfl
          refine lv_iconst (v := 1) hx hb d_Reader_readRange_48 (by decide) ?_
          exact hret H locs s_45 true _ _ hP hD hS (pr2 (by first | (simp only [fRng, fRngE, c_6, c_24, c_35, bnd_t c_6, bnd_t c_24, bnd_t c_35, ← e_3, ← e_14, ← e_21, ← e_45, fStop, if_true, if_false, Bool.false_eq_true, ↓reduceIte]; done) | (simp only [fRng, fRngE, c_6, c_24, c_35, bnd_t c_6, bnd_t c_24, bnd_t c_35, ← e_3, ← e_14, ← e_21, ← e_45, fStop, if_true, if_false, Bool.false_eq_true, ↓reduceIte]; with_reducible rfl) | (simp only [fRng, fRngE, c_6, c_24, c_35, bnd_t c_6, bnd_t c_24, bnd_t c_35, ← e_3, ← e_14, ← e_21, ← e_45, fStop, if_true, if_false, Bool.false_eq_true, ↓reduceIte]; rw [e_45]))) d_Reader_readRange_49
      · skip
        have c_24 : ((fNum T s_14 99999).1) = false := bI_0 c_24
        refine lv_iconst (v := 0) hx hb d_Reader_readRange_27 (by decide) ?_
        exact hret H locs s_21 false _ _ hP hD hS (pr2 (by first | (simp only [fRng, fRngE, c_6, c_24, bnd_t c_6, bnd_f c_24, ← e_3, ← e_14, ← e_21, fStop, if_true, if_false, Bool.false_eq_true, ↓reduceIte]; done) | (simp only [fRng, fRngE, c_6, c_24, bnd_t c_6, bnd_f c_24, ← e_3, ← e_14, ← e_21, fStop, if_true, if_false, Bool.false_eq_true, ↓reduceIte]; with_reducible rfl) | (simp only [fRng, fRngE, c_6, c_24, bnd_t c_6, bnd_f c_24, ← e_3, ← e_14, ← e_21, fStop, if_true, if_false, Bool.false_eq_true, ↓reduceIte]; rw [e_21]))) d_Reader_readRange_28
    · skip
      have c_6 : ((fAll T t_bytes st).1) = false := bI_0 c_6
      refine lv_iconst (v := 0) hx hb d_Reader_readRange_9 (by decide) ?_
      exact hret H locs s_3 false _ _ hP hD hS (pr2 (by first | (simp only [fRng, fRngE, c_6, bnd_f c_6, ← e_3, fStop, if_true, if_false, Bool.false_eq_true, ↓reduceIte]; done) | (simp only [fRng, fRngE, c_6, bnd_f c_6, ← e_3, fStop, if_true, if_false, Bool.false_eq_true, ↓reduceIte]; with_reducible rfl) | (simp only [fRng, fRngE, c_6, bnd_f c_6, ← e_3, fStop, if_true, if_false, Bool.false_eq_true, ↓reduceIte]; rw [e_3]))) d_Reader_readRange_10
  rw [hH, hlo] at goal
  exact goal
set_option maxHeartbeats 4000000 in
set_option maxRecDepth 100000 in
theorem c_Reader_readName (hT : T.2 ≤ 300) (st : RS) (hN : 0 ≤ rNm st) : hx_Mz l D (tyH cd) adK adV tF (rdW ad cd T) y_Reader_readName w_Reader_readName (rmD 4) [.ref (ad 0)] st ((fNam T st).1) ((fNam T st).2) := by
  refine hx_Mz.of (cc := b_Reader_readName) (maxL := 1) (by decide) rfl (Nat.le_of_ble_eq_true rfl) ?_
  intro p e s m below meth c A Q ls hI hX hA hP hD hS hl hret
  obtain ⟨hx, hb, hml, hown, hts⟩ := id hI
  have hts : ∀ w ∈ aw, w.before ([.ref (ad 0)] : List Value).toArray s = true := fun w h => hts w (List.mem_cons_of_mem _ h)
  have hown : s.vm.findClass "HeadDesk$Reader" = some m.cls := hown
  have hI : hx_In p s m ([.ref (ad 0)] : List Value).toArray c b_Reader_readName 1 "HeadDesk$Reader" aw := ⟨hx, hb, hml, hown, hts⟩
  have hP : va_P D vwCl (rdW ad cd T st) s.heap := hP
  obtain ⟨H, hH⟩ : ∃ H, H = s.heap := ⟨_, rfl⟩
  obtain ⟨locs, hlo⟩ : ∃ locs : List Loc, locs = [] := ⟨_, rfl⟩
  have hS : va_S A s.heap H locs := by rw [hH, hlo]; exact hS
  have hP : va_P D vwCl (rdW ad cd T st) H := by rw [hH]; exact hP
  have hl : lv_has ls 1 [(0, .ref (ad 0))] := hl
  have goal : W p l e (rmD 4) s m ([.ref (ad 0)] : List Value).toArray below meth c H locs 0 0 Q (F0 m 0 ls []) := by
    refine lv_aload_n hx hb d_Reader_readName_0 rfl (lv_at hl 0 rfl) ?_
    refine lv_bipush (v := 20) hx hb d_Reader_readName_1 (by decide) ?_
    refine hx_Vz (wr := []) (As := [.int 20]) (rest := []) hI (c_Reader_takeLetters hT st 20 (by decide)) (cw_V (C := "HeadDesk$Reader") 1 hts m_2_116 m_2_118 ms_12 m_1_2 m_2_119 (by decide +kernel) ⟨by decide, by decide⟩) hX hA hP hD hS [0, 1, 2, 3, 4, 5, 6, 7] [] rfl rfl (by decide) (by decide) (by decide) (va_recv hX.1 hP (ci := 1) (q0 := 0) rfl rfl) rfl hl.1 rfl (Nat.le_of_ble_eq_true rfl) d_Reader_readName_3 ⟨Nat.zero_le _, Nat.zero_le _⟩ (fun H locs hP hD hS => ?_)
    obtain ⟨s_3, e_3⟩ : ∃ z : RS, z = (fLet T st 20).2 := ⟨_, rfl⟩
    have hP : va_P D vwCl (rdW ad cd T s_3) H := by rw [e_3]; exact hP
    have hD : va_D A (rdW ad cd T s_3) := by rw [e_3]; exact hD
    refine lv_if_eq (tgt := 18) hx hb d_Reader_readName_6 (by decide) (fun c_6 => ?_) (fun c_6 => ?_)
    · skip
      have c_6 : ((fLet T st 20).1) = false := bI_0 c_6
      refine lv_iconst (v := 0) hx hb d_Reader_readName_18 (by decide) ?_
      exact hret H locs s_3 false _ _ hP hD hS (pr2 (by first | (simp only [fNam, fNamE, c_6, bnd_f c_6, ← e_3, fStop, if_true, if_false, Bool.false_eq_true, ↓reduceIte]; done) | (simp only [fNam, fNamE, c_6, bnd_f c_6, ← e_3, fStop, if_true, if_false, Bool.false_eq_true, ↓reduceIte]; with_reducible rfl) | (simp only [fNam, fNamE, c_6, bnd_f c_6, ← e_3, fStop, if_true, if_false, Bool.false_eq_true, ↓reduceIte]; rw [e_3]))) d_Reader_readName_19
    · skip
      have c_6 : ((fLet T st 20).1) = true := bI_1 c_6
      refine lv_aload_n hx hb d_Reader_readName_9 rfl (lv_at hl 0 rfl) ?_
      refine lv_bipush (v := 58) hx hb d_Reader_readName_10 (by decide) ?_
      refine hx_Vz (wr := []) (As := [.int 58]) (rest := []) hI (c_Reader_take hT s_3 58) (cw_V (C := "HeadDesk$Reader") 1 hts m_2_93 m_2_95 ms_7 m_1_2 m_2_96 (by decide +kernel) ⟨by decide, by decide⟩) hX hA hP hD hS [0, 1, 2, 3, 4, 5, 6, 7] [] rfl rfl (by decide) (by decide) (by decide) (va_recv hX.1 hP (ci := 1) (q0 := 0) rfl rfl) rfl hl.1 rfl (Nat.le_of_ble_eq_true rfl) d_Reader_readName_12 ⟨Nat.zero_le _, Nat.zero_le _⟩ (fun H locs hP hD hS => ?_)
      obtain ⟨s_12, e_12⟩ : ∃ z : RS, z = (fTake T s_3 58).2 := ⟨_, rfl⟩
      have hP : va_P D vwCl (rdW ad cd T s_12) H := by rw [e_12]; exact hP
      have hD : va_D A (rdW ad cd T s_12) := by rw [e_12]; exact hD
      refine lv_if_ne (tgt := 20) hx hb d_Reader_readName_15 (by decide) (fun c_15 => ?_) (fun c_15 => ?_)
      · skip
        have c_15 : ((fTake T s_3 58).1) = true := bI_1 c_15
        refine lv_aload_n hx hb d_Reader_readName_20 rfl (lv_at hl 0 rfl) ?_
        refine va_get (D := D) (ci := 1) (v := .int (rNm s_12)) (C := "HeadDesk$Reader") (T := F_Reader) (N := 11) hx hb hts a_Reader hown hX.1 hP 0 rfl rfl 4 (by decide) (hts _ m_1_65) (fun _ h9 => h9) rfl d_Reader_readName_21 ?_
        refine lv_bipush (v := 100) hx hb d_Reader_readName_24 (by decide) ?_
        refine lv_icmp_ge (tgt := 36) hx hb d_Reader_readName_26 (by decide) (fun c_26 => ?_) (fun c_26 => ?_)
        · skip
          have c_26 : (100 ≤ rNm s_12) := c_26
          refine lv_aload_n hx hb d_Reader_readName_36 rfl (lv_at hl 0 rfl) ?_
          refine lv_aload_n hx hb d_Reader_readName_37 rfl (lv_at hl 0 rfl) ?_
          refine va_get (D := D) (ci := 1) (v := .int (rWs s_12)) (C := "HeadDesk$Reader") (T := F_Reader) (N := 11) hx hb hts a_Reader hown hX.1 hP 0 rfl rfl 9 (by decide) (hts _ m_1_70) (fun _ h9 => h9) rfl d_Reader_readName_38 ?_
          refine hx_Vz (wr := []) (As := [.int (rWs s_12)]) (rest := []) hI (c_Reader_stop hT s_12 (rWs s_12)) (cw_V (C := "HeadDesk$Reader") 1 hts m_2_87 m_2_89 ms_6 m_1_2 m_2_90 (by decide +kernel) ⟨by decide, by decide⟩) hX hA hP hD hS [0, 1, 2, 3, 4, 5, 6, 7] [] rfl rfl (by decide) (by decide) (by decide) (va_recv hX.1 hP (ci := 1) (q0 := 0) rfl rfl) rfl hl.1 rfl (Nat.le_of_ble_eq_true rfl) d_Reader_readName_41 ⟨Nat.zero_le _, Nat.zero_le _⟩ (fun H locs hP hD hS => ?_)
          obtain ⟨s_41, e_41⟩ : ∃ z : RS, z = sSk s_12 (rWs s_12) := ⟨_, rfl⟩
          have hP : va_P D vwCl (rdW ad cd T s_41) H := by rw [e_41]; exact hP
          have hD : va_D A (rdW ad cd T s_41) := by rw [e_41]; exact hD
          exact hret H locs s_41 false _ _ hP hD hS (pr2 (by first | (simp only [fNam, fNamE, c_6, c_15, if_pos c_26, bnd_t c_6, bnd_t c_15, ← e_3, ← e_12, ← e_41, fStop, if_true, if_false, Bool.false_eq_true, ↓reduceIte]; done) | (simp only [fNam, fNamE, c_6, c_15, if_pos c_26, bnd_t c_6, bnd_t c_15, ← e_3, ← e_12, ← e_41, fStop, if_true, if_false, Bool.false_eq_true, ↓reduceIte]; with_reducible rfl) | (simp only [fNam, fNamE, c_6, c_15, if_pos c_26, bnd_t c_6, bnd_t c_15, ← e_3, ← e_12, ← e_41, fStop, if_true, if_false, Bool.false_eq_true, ↓reduceIte]; rw [e_41]))) d_Reader_readName_44
        · skip
          have c_26 : ¬ (100 ≤ rNm s_12) := c_26
          refine lv_aload_n hx hb d_Reader_readName_29 rfl (lv_at hl 0 rfl) ?_
          refine hx_Vz (wr := []) (As := []) (rest := []) hI (c_Reader_wasThere hT s_12 ) (cw_V (C := "HeadDesk$Reader") 0 hts m_2_123 m_2_125 ms_13 m_1_2 m_2_126 (by decide +kernel) ⟨by decide, by decide⟩) hX hA hP hD hS [0, 1, 2, 3, 4, 5, 6, 7] [] rfl rfl (by decide) (by decide) (by decide) (va_recv hX.1 hP (ci := 1) (q0 := 0) rfl rfl) rfl hl.1 rfl (Nat.le_of_ble_eq_true rfl) d_Reader_readName_30 ⟨Nat.zero_le _, Nat.zero_le _⟩ (fun H locs hP hD hS => ?_)
          have hP : va_P D vwCl (rdW ad cd T s_12) H := hP
          have hD : va_D A (rdW ad cd T s_12) := hD
          refine lv_if_eq (tgt := 45) hx hb d_Reader_readName_33 (by decide) (fun c_33 => ?_) (fun c_33 => ?_)
          · skip
            have c_33 : (fWas T s_12) = false := bI_0 c_33
            refine lv_aload_n hx hb d_Reader_readName_45 rfl (lv_at hl 0 rfl) ?_
            refine va_get (D := D) (ci := 1) (v := .ref (ad 3)) (C := "HeadDesk$Reader") (T := F_Reader) (N := 11) hx hb hts a_Reader hown hX.1 hP 0 rfl rfl 1 (by decide) (hts _ m_1_62) (fun _ h9 => h9) rfl d_Reader_readName_46 ?_
            refine lv_aload_n hx hb d_Reader_readName_49 rfl (lv_at hl 0 rfl) ?_
            refine va_get (D := D) (ci := 1) (v := .int (rNm s_12)) (C := "HeadDesk$Reader") (T := F_Reader) (N := 11) hx hb hts a_Reader hown hX.1 hP 0 rfl rfl 4 (by decide) (hts _ m_1_65) (fun _ h9 => h9) rfl d_Reader_readName_50 ?_
            refine lv_aload_n hx hb d_Reader_readName_53 rfl (lv_at hl 0 rfl) ?_
            refine va_get (D := D) (ci := 1) (v := .int (rWs s_12)) (C := "HeadDesk$Reader") (T := F_Reader) (N := 11) hx hb hts a_Reader hown hX.1 hP 0 rfl rfl 9 (by decide) (hts _ m_1_70) (fun _ h9 => h9) rfl d_Reader_readName_54 ?_
            refine va_iast hx hb hX.1 hP hD hS 3 1 rfl rfl (hixN (by rw [e_12, nm_take, e_3, nm_let]; exact hN) c_26) d_Reader_readName_57 (fun H locs hP hD hS => ?_)
            have hP : va_P D vwCl (rdW ad cd T (sNs s_12 (upd (rNs s_12) (rNm s_12).toNatClampNeg (rWs s_12)))) H := hP
            have hD : va_D A (rdW ad cd T (sNs s_12 (upd (rNs s_12) (rNm s_12).toNatClampNeg (rWs s_12)))) := hD
            refine lv_aload_n hx hb d_Reader_readName_58 rfl (lv_at hl 0 rfl) ?_
            refine va_get (D := D) (ci := 1) (v := .ref (ad 4)) (C := "HeadDesk$Reader") (T := F_Reader) (N := 11) hx hb hts a_Reader hown hX.1 hP 0 rfl rfl 2 (by decide) (hts _ m_1_63) (fun _ h9 => h9) rfl d_Reader_readName_59 ?_
            refine lv_aload_n hx hb d_Reader_readName_62 rfl (lv_at hl 0 rfl) ?_
            refine va_get (D := D) (ci := 1) (v := .int (rNm s_12)) (C := "HeadDesk$Reader") (T := F_Reader) (N := 11) hx hb hts a_Reader hown hX.1 hP 0 rfl rfl 4 (by decide) (hts _ m_1_65) (fun _ h9 => h9) rfl d_Reader_readName_63 ?_
            refine lv_aload_n hx hb d_Reader_readName_66 rfl (lv_at hl 0 rfl) ?_
            refine va_get (D := D) (ci := 1) (v := .int (rWe s_12)) (C := "HeadDesk$Reader") (T := F_Reader) (N := 11) hx hb hts a_Reader hown hX.1 hP 0 rfl rfl 10 (by decide) (hts _ m_1_71) (fun _ h9 => h9) rfl d_Reader_readName_67 ?_
            refine va_iast hx hb hX.1 hP hD hS 4 2 rfl rfl (hixN (by rw [e_12, nm_take, e_3, nm_let]; exact hN) c_26) d_Reader_readName_70 (fun H locs hP hD hS => ?_)
            have hP : va_P D vwCl (rdW ad cd T (sNe (sNs s_12 (upd (rNs s_12) (rNm s_12).toNatClampNeg (rWs s_12))) (upd (rNe s_12) (rNm s_12).toNatClampNeg (rWe s_12)))) H := hP
            have hD : va_D A (rdW ad cd T (sNe (sNs s_12 (upd (rNs s_12) (rNm s_12).toNatClampNeg (rWs s_12))) (upd (rNe s_12) (rNm s_12).toNatClampNeg (rWe s_12)))) := hD
            refine lv_aload_n hx hb d_Reader_readName_71 rfl (lv_at hl 0 rfl) ?_
            refine lv_dup hx hb d_Reader_readName_72 rfl ?_
            refine va_get (D := D) (ci := 1) (v := .int (rNm s_12)) (C := "HeadDesk$Reader") (T := F_Reader) (N := 11) hx hb hts a_Reader hown hX.1 hP 0 rfl rfl 4 (by decide) (hts _ m_1_65) (fun _ h9 => h9) rfl d_Reader_readName_73 ?_
            refine lv_iconst (v := 1) hx hb d_Reader_readName_76 (by decide) ?_
            refine lv_iadd hx hb d_Reader_readName_77 ?_
            refine va_put (D := D) (ci := 1) (v := .int ((rNm s_12) + 1)) (ty := .int) (C := "HeadDesk$Reader") (T := F_Reader) (N := 11) hx hb hts a_Reader t_Reader k_Reader n_Reader hown hX.1 hP hD hS 0 rfl rfl 4 (by decide) (hts _ m_1_65) (fun _ h9 => h9) rfl (by decide +kernel) rfl rfl (Nat.le_of_ble_eq_true rfl) d_Reader_readName_78 (fun H locs hP hD hS => ?_)
            have hP : va_P D vwCl (rdW ad cd T (sNm (sNe (sNs s_12 (upd (rNs s_12) (rNm s_12).toNatClampNeg (rWs s_12))) (upd (rNe s_12) (rNm s_12).toNatClampNeg (rWe s_12))) ((rNm s_12) + 1))) H := hP
            have hD : va_D A (rdW ad cd T (sNm (sNe (sNs s_12 (upd (rNs s_12) (rNm s_12).toNatClampNeg (rWs s_12))) (upd (rNe s_12) (rNm s_12).toNatClampNeg (rWe s_12))) ((rNm s_12) + 1))) := hD
            refine lv_iconst (v := 1) hx hb d_Reader_readName_81 (by decide) ?_
            exact hret H locs (sNm (sNe (sNs s_12 (upd (rNs s_12) (rNm s_12).toNatClampNeg (rWs s_12))) (upd (rNe s_12) (rNm s_12).toNatClampNeg (rWe s_12))) ((rNm s_12) + 1)) true _ _ hP hD hS (pr2 (by first | (simp only [fNam, fNamE, c_6, c_15, if_neg c_26, c_33, bnd_t c_6, bnd_t c_15, ← e_3, ← e_12, fStop, if_true, if_false, Bool.false_eq_true, ↓reduceIte]; done) | (simp only [fNam, fNamE, c_6, c_15, if_neg c_26, c_33, bnd_t c_6, bnd_t c_15, ← e_3, ← e_12, fStop, if_true, if_false, Bool.false_eq_true, ↓reduceIte]; with_reducible rfl) | (simp only [fNam, fNamE, c_6, c_15, if_neg c_26, c_33, bnd_t c_6, bnd_t c_15, ← e_3, ← e_12, fStop, if_true, if_false, Bool.false_eq_true, ↓reduceIte]; rw [e_12]))) d_Reader_readName_82
          · skip
            have c_33 : (fWas T s_12) = true := bI_1 c_33
            refine lv_aload_n hx hb d_Reader_readName_36 rfl (lv_at hl 0 rfl) ?_
            refine lv_aload_n hx hb d_Reader_readName_37 rfl (lv_at hl 0 rfl) ?_
            refine va_get (D := D) (ci := 1) (v := .int (rWs s_12)) (C := "HeadDesk$Reader") (T := F_Reader) (N := 11) hx hb hts a_Reader hown hX.1 hP 0 rfl rfl 9 (by decide) (hts _ m_1_70) (fun _ h9 => h9) rfl d_Reader_readName_38 ?_
            refine hx_Vz (wr := []) (As := [.int (rWs s_12)]) (rest := []) hI (c_Reader_stop hT s_12 (rWs s_12)) (cw_V (C := "HeadDesk$Reader") 1 hts m_2_87 m_2_89 ms_6 m_1_2 m_2_90 (by decide +kernel) ⟨by decide, by decide⟩) hX hA hP hD hS [0, 1, 2, 3, 4, 5, 6, 7] [] rfl rfl (by decide) (by decide) (by decide) (va_recv hX.1 hP (ci := 1) (q0 := 0) rfl rfl) rfl hl.1 rfl (Nat.le_of_ble_eq_true rfl) d_Reader_readName_41 ⟨Nat.zero_le _, Nat.zero_le _⟩ (fun H locs hP hD hS => ?_)
            obtain ⟨s_41, e_41⟩ : ∃ z : RS, z = sSk s_12 (rWs s_12) := ⟨_, rfl⟩
            have hP : va_P D vwCl (rdW ad cd T s_41) H := by rw [e_41]; exact hP
            have hD : va_D A (rdW ad cd T s_41) := by rw [e_41]; exact hD
            exact hret H locs s_41 false _ _ hP hD hS (pr2 (by first | (simp only [fNam, fNamE, c_6, c_15, if_neg c_26, c_33, bnd_t c_6, bnd_t c_15, ← e_3, ← e_12, ← e_41, fStop, if_true, if_false, Bool.false_eq_true, ↓reduceIte]; done) | (simp only [fNam, fNamE, c_6, c_15, if_neg c_26, c_33, bnd_t c_6, bnd_t c_15, ← e_3, ← e_12, ← e_41, fStop, if_true, if_false, Bool.false_eq_true, ↓reduceIte]; with_reducible rfl) | (simp only [fNam, fNamE, c_6, c_15, if_neg c_26, c_33, bnd_t c_6, bnd_t c_15, ← e_3, ← e_12, ← e_41, fStop, if_true, if_false, Bool.false_eq_true, ↓reduceIte]; rw [e_41]))) d_Reader_readName_44
      · skip
        have c_15 : ((fTake T s_3 58).1) = false := bI_0 c_15
        refine lv_iconst (v := 0) hx hb d_Reader_readName_18 (by decide) ?_
        exact hret H locs s_12 false _ _ hP hD hS (pr2 (by first | (simp only [fNam, fNamE, c_6, c_15, bnd_t c_6, bnd_f c_15, ← e_3, ← e_12, fStop, if_true, if_false, Bool.false_eq_true, ↓reduceIte]; done) | (simp only [fNam, fNamE, c_6, c_15, bnd_t c_6, bnd_f c_15, ← e_3, ← e_12, fStop, if_true, if_false, Bool.false_eq_true, ↓reduceIte]; with_reducible rfl) | (simp only [fNam, fNamE, c_6, c_15, bnd_t c_6, bnd_f c_15, ← e_3, ← e_12, fStop, if_true, if_false, Bool.false_eq_true, ↓reduceIte]; rw [e_12]))) d_Reader_readName_19
  rw [hH, hlo] at goal
  exact goal
set_option maxHeartbeats 4000000 in
set_option maxRecDepth 100000 in
theorem c_Reader_readVersions (hT : T.2 ≤ 300) (st : RS)  : hx_Mz l D (tyH cd) adK adV tF (rdW ad cd T) y_Reader_readVersions w_Reader_readVersions (rmD 4) [.ref (ad 0)] st ((fVer T st).1) ((fVer T st).2) := by
  refine hx_Mz.of (cc := b_Reader_readVersions) (maxL := 2) (by decide) rfl (Nat.le_of_ble_eq_true rfl) ?_
  intro p e s m below meth c A Q ls hI hX hA hP hD hS hl hret
  obtain ⟨hx, hb, hml, hown, hts⟩ := id hI
  have hts : ∀ w ∈ aw, w.before ([.ref (ad 0)] : List Value).toArray s = true := fun w h => hts w (List.mem_cons_of_mem _ h)
  have hown : s.vm.findClass "HeadDesk$Reader" = some m.cls := hown
  have hI : hx_In p s m ([.ref (ad 0)] : List Value).toArray c b_Reader_readVersions 2 "HeadDesk$Reader" aw := ⟨hx, hb, hml, hown, hts⟩
  have hP : va_P D vwCl (rdW ad cd T st) s.heap := hP
  obtain ⟨H, hH⟩ : ∃ H, H = s.heap := ⟨_, rfl⟩
  obtain ⟨locs, hlo⟩ : ∃ locs : List Loc, locs = [] := ⟨_, rfl⟩
  have hS : va_S A s.heap H locs := by rw [hH, hlo]; exact hS
  have hP : va_P D vwCl (rdW ad cd T st) H := by rw [hH]; exact hP
  have hl : lv_has ls 2 [(0, .ref (ad 0))] := hl
  have goal : W p l e (rmD 4) s m ([.ref (ad 0)] : List Value).toArray below meth c H locs 0 0 Q (F0 m 0 ls []) := by
    refine lv_aload_n hx hb d_Reader_readVersions_0 rfl (lv_at hl 0 rfl) ?_
    refine lv_bipush (v := 42) hx hb d_Reader_readVersions_1 (by decide) ?_
    refine hx_Vz (wr := []) (As := [.int 42]) (rest := []) hI (c_Reader_skip hT st 42) (cw_V (C := "HeadDesk$Reader") 1 hts m_2_108 m_2_110 ms_10 m_1_2 m_2_111 (by decide +kernel) ⟨by decide, by decide⟩) hX hA hP hD hS [0, 1, 2, 3, 4, 5, 6, 7] [] rfl rfl (by decide) (by decide) (by decide) (va_recv hX.1 hP (ci := 1) (q0 := 0) rfl rfl) rfl hl.1 rfl (Nat.le_of_ble_eq_true rfl) d_Reader_readVersions_3 ⟨Nat.zero_le _, Nat.zero_le _⟩ (fun H locs hP hD hS => ?_)
    obtain ⟨s_3, e_3⟩ : ∃ z : RS, z = (fSkip T st 42).2 := ⟨_, rfl⟩
    have hP : va_P D vwCl (rdW ad cd T s_3) H := by rw [e_3]; exact hP
    have hD : va_D A (rdW ad cd T s_3) := by rw [e_3]; exact hD
    refine lv_if_eq (tgt := 21) hx hb d_Reader_readVersions_6 (by decide) (fun c_6 => ?_) (fun c_6 => ?_)
    · skip
      have c_6 : ((fSkip T st 42).1) = false := bI_0 c_6
      refine lv_iconst (v := 1) hx hb d_Reader_readVersions_21 (by decide) ?_
      refine lv_istore_n (lv' := [(1, .int 1), (0, .ref (ad 0))]) hx hb d_Reader_readVersions_22 rfl hl (by decide) rfl (fun ls hl => ?_)
      have loop23 : ∀ (k : Nat) (j : Nat) (s1 : RS) (H : Heap) (locs : List Loc) (ls : Array Slot), j + k = 9 → fVer T st = fVerL T k s1 → va_P D vwCl (rdW ad cd T s1) H → va_D A (rdW ad cd T s1) → va_S A s.heap H locs → lv_has ls 2 [(1, .int (nI j)), (0, .ref (ad 0))] → W p l e (rmD 4) s m ([.ref (ad 0)] : List Value).toArray below meth c H locs 0 0 Q (F0 m 23 ls []) := by
        intro k
        induction k with
        | zero =>
          intro j s1 H locs ls hj hF hP hD hS hl
          refine lv_iload_n hx hb d_Reader_readVersions_23 rfl (lv_at hl 0 rfl) ?_
          refine lv_bipush (v := 8) hx hb d_Reader_readVersions_24 (by decide) ?_
          refine lv_icmp_gt (tgt := 103) hx hb d_Reader_readVersions_26 (by decide) (fun c_26 => ?_) (fun c_26 => ?_)
          · skip
            have c_26 : (8 < nI j) := c_26
            refine lv_iconst (v := 1) hx hb d_Reader_readVersions_103 (by decide) ?_
            exact hret H locs s1 true _ _ hP hD hS (pr2 (by first | (rw [hF]; ((try simp only [fVerL]) <;> simp only [fVerL, if_pos c_26, fStop, if_true, if_false, Bool.false_eq_true, ↓reduceIte]); done) | (rw [hF]; ((try simp only [fVerL]) <;> simp only [fVerL, if_pos c_26, fStop, if_true, if_false, Bool.false_eq_true, ↓reduceIte]); with_reducible rfl))) d_Reader_readVersions_104
          · skip
            exact absurd (nI_tyes (N := 8) rfl (by omega) (by omega)) c_26
        | succ k ih =>
          intro j s1 H locs ls hj hF hP hD hS hl
          refine lv_iload_n hx hb d_Reader_readVersions_23 rfl (lv_at hl 0 rfl) ?_
          refine lv_bipush (v := 8) hx hb d_Reader_readVersions_24 (by decide) ?_
          refine lv_icmp_gt (tgt := 103) hx hb d_Reader_readVersions_26 (by decide) (fun c_26 => ?_) (fun c_26 => ?_)
          · skip
            exact absurd c_26 (nI_tno (N := 8) rfl (by omega) (by omega))
          · skip
            have c_26 : ¬ (8 < nI j) := c_26
            refine lv_aload_n hx hb d_Reader_readVersions_29 rfl (lv_at hl 1 rfl) ?_
            refine lv_bipush (v := 34) hx hb d_Reader_readVersions_30 (by decide) ?_
            refine hx_Vz (wr := []) (As := [.int 34]) (rest := []) hI (c_Reader_take hT s1 34) (cw_V (C := "HeadDesk$Reader") 1 hts m_2_93 m_2_95 ms_7 m_1_2 m_2_96 (by decide +kernel) ⟨by decide, by decide⟩) hX hA hP hD hS [0, 1, 2, 3, 4, 5, 6, 7] [] rfl rfl (by decide) (by decide) (by decide) (va_recv hX.1 hP (ci := 1) (q0 := 0) rfl rfl) rfl hl.1 rfl (Nat.le_of_ble_eq_true rfl) d_Reader_readVersions_32 ⟨Nat.zero_le _, Nat.zero_le _⟩ (fun H locs hP hD hS => ?_)
            obtain ⟨s_32, e_32⟩ : ∃ z : RS, z = (fTake T s1 34).2 := ⟨_, rfl⟩
            have hP : va_P D vwCl (rdW ad cd T s_32) H := by rw [e_32]; exact hP
            have hD : va_D A (rdW ad cd T s_32) := by rw [e_32]; exact hD
            refine lv_if_eq (tgt := 56) hx hb d_Reader_readVersions_35 (by decide) (fun c_35 => ?_) (fun c_35 => ?_)
            · skip
              have c_35 : ((fTake T s1 34).1) = false := bI_0 c_35
              refine lv_iconst (v := 0) hx hb d_Reader_readVersions_56 (by decide) ?_
              exact hret H locs s_32 false _ _ hP hD hS (pr2 (by first | (rw [hF]; ((try simp only [fVerL]) <;> simp only [fVerL, if_neg c_26, c_35, bnd_f c_35, ← e_32, fStop, if_true, if_false, Bool.false_eq_true, ↓reduceIte]); done) | (rw [hF]; ((try simp only [fVerL]) <;> simp only [fVerL, if_neg c_26, c_35, bnd_f c_35, ← e_32, fStop, if_true, if_false, Bool.false_eq_true, ↓reduceIte]); with_reducible rfl) | (rw [hF]; ((try simp only [fVerL]) <;> simp only [fVerL, if_neg c_26, c_35, bnd_f c_35, ← e_32, fStop, if_true, if_false, Bool.false_eq_true, ↓reduceIte]); rw [e_32]))) d_Reader_readVersions_57
            · skip
              have c_35 : ((fTake T s1 34).1) = true := bI_1 c_35
              refine lv_aload_n hx hb d_Reader_readVersions_38 rfl (lv_at hl 1 rfl) ?_
              refine lv_ldc (v := 99999) hx hb hown (hts _ m_2_152) d_Reader_readVersions_39 ?_
              refine hx_Vz (wr := []) (As := [.int 99999]) (rest := []) hI (c_Reader_takeNumber hT s_32 99999) (cw_V (C := "HeadDesk$Reader") 1 hts m_2_101 m_2_103 ms_9 m_1_2 m_2_104 (by decide +kernel) ⟨by decide, by decide⟩) hX hA hP hD hS [0, 1, 2, 3, 4, 5, 6, 7] [] rfl rfl (by decide) (by decide) (by decide) (va_recv hX.1 hP (ci := 1) (q0 := 0) rfl rfl) rfl hl.1 rfl (Nat.le_of_ble_eq_true rfl) d_Reader_readVersions_41 ⟨Nat.zero_le _, Nat.zero_le _⟩ (fun H locs hP hD hS => ?_)
              obtain ⟨s_41, e_41⟩ : ∃ z : RS, z = (fNum T s_32 99999).2 := ⟨_, rfl⟩
              have hP : va_P D vwCl (rdW ad cd T s_41) H := by rw [e_41]; exact hP
              have hD : va_D A (rdW ad cd T s_41) := by rw [e_41]; exact hD
              refine lv_if_eq (tgt := 56) hx hb d_Reader_readVersions_44 (by decide) (fun c_44 => ?_) (fun c_44 => ?_)
              · skip
                have c_44 : ((fNum T s_32 99999).1) = false := bI_0 c_44
                refine lv_iconst (v := 0) hx hb d_Reader_readVersions_56 (by decide) ?_
                exact hret H locs s_41 false _ _ hP hD hS (pr2 (by first | (rw [hF]; ((try simp only [fVerL]) <;> simp only [fVerL, if_neg c_26, c_35, c_44, bnd_t c_35, bnd_f c_44, ← e_32, ← e_41, fStop, if_true, if_false, Bool.false_eq_true, ↓reduceIte]); done) | (rw [hF]; ((try simp only [fVerL]) <;> simp only [fVerL, if_neg c_26, c_35, c_44, bnd_t c_35, bnd_f c_44, ← e_32, ← e_41, fStop, if_true, if_false, Bool.false_eq_true, ↓reduceIte]); with_reducible rfl) | (rw [hF]; ((try simp only [fVerL]) <;> simp only [fVerL, if_neg c_26, c_35, c_44, bnd_t c_35, bnd_f c_44, ← e_32, ← e_41, fStop, if_true, if_false, Bool.false_eq_true, ↓reduceIte]); rw [e_41]))) d_Reader_readVersions_57
              · skip
                have c_44 : ((fNum T s_32 99999).1) = true := bI_1 c_44
                refine lv_aload_n hx hb d_Reader_readVersions_47 rfl (lv_at hl 1 rfl) ?_
                refine lv_bipush (v := 34) hx hb d_Reader_readVersions_48 (by decide) ?_
                refine hx_Vz (wr := []) (As := [.int 34]) (rest := []) hI (c_Reader_take hT s_41 34) (cw_V (C := "HeadDesk$Reader") 1 hts m_2_93 m_2_95 ms_7 m_1_2 m_2_96 (by decide +kernel) ⟨by decide, by decide⟩) hX hA hP hD hS [0, 1, 2, 3, 4, 5, 6, 7] [] rfl rfl (by decide) (by decide) (by decide) (va_recv hX.1 hP (ci := 1) (q0 := 0) rfl rfl) rfl hl.1 rfl (Nat.le_of_ble_eq_true rfl) d_Reader_readVersions_50 ⟨Nat.zero_le _, Nat.zero_le _⟩ (fun H locs hP hD hS => ?_)
                obtain ⟨s_50, e_50⟩ : ∃ z : RS, z = (fTake T s_41 34).2 := ⟨_, rfl⟩
                have hP : va_P D vwCl (rdW ad cd T s_50) H := by rw [e_50]; exact hP
                have hD : va_D A (rdW ad cd T s_50) := by rw [e_50]; exact hD
                refine lv_if_ne (tgt := 58) hx hb d_Reader_readVersions_53 (by decide) (fun c_53 => ?_) (fun c_53 => ?_)
                · skip
                  have c_53 : ((fTake T s_41 34).1) = true := bI_1 c_53
                  refine lv_aload_n hx hb d_Reader_readVersions_58 rfl (lv_at hl 1 rfl) ?_
                  refine va_get (D := D) (ci := 1) (v := .ref (ad 5)) (C := "HeadDesk$Reader") (T := F_Reader) (N := 11) hx hb hts a_Reader hown hX.1 hP 0 rfl rfl 3 (by decide) (hts _ m_1_64) (fun _ h9 => h9) rfl d_Reader_readVersions_59 ?_
                  refine lv_aload_n hx hb d_Reader_readVersions_62 rfl (lv_at hl 1 rfl) ?_
                  refine va_get (D := D) (ci := 1) (v := .int (rNb s_50)) (C := "HeadDesk$Reader") (T := F_Reader) (N := 11) hx hb hts a_Reader hown hX.1 hP 0 rfl rfl 8 (by decide) (hts _ m_1_69) (fun _ h9 => h9) rfl d_Reader_readVersions_63 ?_
                  refine hx_Vv (wr := [(ad 0, .inr (1, [.ref (ad 1), .ref (ad 3), .ref (ad 4), .ref (ad 5), .int (rNm s_50), .int (rKd s_50), .int (rPl s_50), .int (rSk s_50), .int (rNb s_50), .int (rWs s_50), .int (rWe s_50)])), (ad 1, .inr (2, [.ref (ad 2), .int (T.2)])), (ad 2, .inl (cd 0, 300, .inl T.1)), (ad 3, .inl (cd 1, 100, .inl (rNs s_50))), (ad 4, .inl (cd 2, 100, .inl (rNe s_50)))]) (As := [.int (rNb s_50)]) (rest := []) hI (c_Head_addVersion (ah := ad 5) (av := ad 6) (ar := ad 7) (cv := cd 3) (cr := cd 4) (tv := 3) (tr := 4) rfl rfl (rVs s_50, rVr s_50) (rNb s_50)) (cw_V (C := "HeadDesk$Head") 1 hts m_2_176 m_2_177 m_2_178 m_1_4 m_2_179 (by decide +kernel) ⟨by decide, by decide⟩) hX hA hP hD hS [5, 6, 7] [0, 1, 2, 3, 4] rfl rfl (by decide) (by decide) (by decide) (va_recv hX.1 hP (ci := 0) (q0 := 5) rfl rfl) rfl hl.1 rfl (Nat.le_of_ble_eq_true rfl) d_Reader_readVersions_66 ⟨Nat.zero_le _, Nat.zero_le _⟩ (fun H locs hP hD hS => ?_)
                  obtain ⟨s_66, e_66⟩ : ∃ z : RS, z = sVr (sVs s_50 ((hAdd (rVs s_50) (rVr s_50) (rNb s_50)).1)) ((hAdd (rVs s_50) (rVr s_50) (rNb s_50)).2) := ⟨_, rfl⟩
                  have hP : va_P D vwCl (rdW ad cd T s_66) H := by rw [e_66]; exact hP.sub [0, 1, 2, 3, 4, 5, 6, 7] rfl
                  have hD : va_D A (rdW ad cd T s_66) := by rw [e_66]; exact hD.sub [0, 1, 2, 3, 4, 5, 6, 7] (by decide) rfl
                  refine lv_iload_n hx hb d_Reader_readVersions_69 rfl (lv_at hl 0 rfl) ?_
                  refine lv_bipush (v := 8) hx hb d_Reader_readVersions_70 (by decide) ?_
                  refine lv_icmp_eq (tgt := 84) hx hb d_Reader_readVersions_72 (by decide) (fun c_72 => ?_) (fun c_72 => ?_)
                  · skip
                    have c_72 : k = 0 := nI_k0 (N := 8) rfl (by omega) (by omega) c_72
                    refine lv_iconst (v := 1) hx hb d_Reader_readVersions_84 (by decide) ?_
                    exact hret H locs s_66 true _ _ hP hD hS (pr2 (by first | (rw [hF]; ((try simp only [fVerL]) <;> simp only [fVerL, if_neg c_26, c_35, c_44, c_53, if_pos c_72, bnd_t c_35, bnd_t c_44, bnd_t c_53, ← e_32, ← e_41, ← e_50, ← e_66, fStop, if_true, if_false, Bool.false_eq_true, ↓reduceIte]); done) | (rw [hF]; ((try simp only [fVerL]) <;> simp only [fVerL, if_neg c_26, c_35, c_44, c_53, if_pos c_72, bnd_t c_35, bnd_t c_44, bnd_t c_53, ← e_32, ← e_41, ← e_50, ← e_66, fStop, if_true, if_false, Bool.false_eq_true, ↓reduceIte]); with_reducible rfl) | (rw [hF]; ((try simp only [fVerL]) <;> simp only [fVerL, if_neg c_26, c_35, c_44, c_53, if_pos c_72, bnd_t c_35, bnd_t c_44, bnd_t c_53, ← e_32, ← e_41, ← e_50, ← e_66, fStop, if_true, if_false, Bool.false_eq_true, ↓reduceIte]); rw [e_66]))) d_Reader_readVersions_85
                  · skip
                    have c_72 : ¬ k = 0 := fun h => c_72 (nI_k1 (N := 8) rfl (by omega))
                    refine lv_aload_n hx hb d_Reader_readVersions_75 rfl (lv_at hl 1 rfl) ?_
                    refine lv_bipush (v := 44) hx hb d_Reader_readVersions_76 (by decide) ?_
                    refine hx_Vz (wr := []) (As := [.int 44]) (rest := []) hI (c_Reader_skip hT s_66 44) (cw_V (C := "HeadDesk$Reader") 1 hts m_2_108 m_2_110 ms_10 m_1_2 m_2_111 (by decide +kernel) ⟨by decide, by decide⟩) hX hA hP hD hS [0, 1, 2, 3, 4, 5, 6, 7] [] rfl rfl (by decide) (by decide) (by decide) (va_recv hX.1 hP (ci := 1) (q0 := 0) rfl rfl) rfl hl.1 rfl (Nat.le_of_ble_eq_true rfl) d_Reader_readVersions_78 ⟨Nat.zero_le _, Nat.zero_le _⟩ (fun H locs hP hD hS => ?_)
                    obtain ⟨s_78, e_78⟩ : ∃ z : RS, z = (fSkip T s_66 44).2 := ⟨_, rfl⟩
                    have hP : va_P D vwCl (rdW ad cd T s_78) H := by rw [e_78]; exact hP
                    have hD : va_D A (rdW ad cd T s_78) := by rw [e_78]; exact hD
                    refine lv_if_ne (tgt := 86) hx hb d_Reader_readVersions_81 (by decide) (fun c_81 => ?_) (fun c_81 => ?_)
                    · skip
                      have c_81 : ((fSkip T s_66 44).1) = true := bI_1 c_81
                      refine lv_aload_n hx hb d_Reader_readVersions_86 rfl (lv_at hl 1 rfl) ?_
                      refine lv_bipush (v := 32) hx hb d_Reader_readVersions_87 (by decide) ?_
                      refine hx_Vz (wr := []) (As := [.int 32]) (rest := []) hI (c_Reader_take hT s_78 32) (cw_V (C := "HeadDesk$Reader") 1 hts m_2_93 m_2_95 ms_7 m_1_2 m_2_96 (by decide +kernel) ⟨by decide, by decide⟩) hX hA hP hD hS [0, 1, 2, 3, 4, 5, 6, 7] [] rfl rfl (by decide) (by decide) (by decide) (va_recv hX.1 hP (ci := 1) (q0 := 0) rfl rfl) rfl hl.1 rfl (Nat.le_of_ble_eq_true rfl) d_Reader_readVersions_89 ⟨Nat.zero_le _, Nat.zero_le _⟩ (fun H locs hP hD hS => ?_)
                      obtain ⟨s_89, e_89⟩ : ∃ z : RS, z = (fTake T s_78 32).2 := ⟨_, rfl⟩
                      have hP : va_P D vwCl (rdW ad cd T s_89) H := by rw [e_89]; exact hP
                      have hD : va_D A (rdW ad cd T s_89) := by rw [e_89]; exact hD
                      refine lv_if_ne (tgt := 97) hx hb d_Reader_readVersions_92 (by decide) (fun c_92 => ?_) (fun c_92 => ?_)
                      · skip
                        have c_92 : ((fTake T s_78 32).1) = true := bI_1 c_92
                        refine lv_iinc (v := nI (j + 1)) (lv' := [(1, .int (nI (j + 1))), (0, .ref (ad 0))]) hx hb d_Reader_readVersions_97 hl (k := 0) rfl (by rw [nI_succ]; rfl) (by decide) rfl (fun ls hl => ?_)
                        refine lv_goto (tgt := 23) hx hb d_Reader_readVersions_100 (by decide) ?_
                        exact ih (j + 1) s_89 H locs ls (by omega)  (by first | (rw [hF]; ((try simp only [fVerL]) <;> simp only [fVerL, if_neg c_26, c_35, c_44, c_53, if_neg c_72, c_81, c_92, bnd_t c_35, bnd_t c_44, bnd_t c_53, bnd_t c_81, bnd_t c_92, ← e_32, ← e_41, ← e_50, ← e_66, ← e_78, ← e_89, fStop, if_true, if_false, Bool.false_eq_true, ↓reduceIte]); done) | (rw [hF]; ((try simp only [fVerL]) <;> simp only [fVerL, if_neg c_26, c_35, c_44, c_53, if_neg c_72, c_81, c_92, bnd_t c_35, bnd_t c_44, bnd_t c_53, bnd_t c_81, bnd_t c_92, ← e_32, ← e_41, ← e_50, ← e_66, ← e_78, ← e_89, fStop, if_true, if_false, Bool.false_eq_true, ↓reduceIte]); with_reducible rfl) | (rw [hF]; ((try simp only [fVerL]) <;> simp only [fVerL, if_neg c_26, c_35, c_44, c_53, if_neg c_72, c_81, c_92, bnd_t c_35, bnd_t c_44, bnd_t c_53, bnd_t c_81, bnd_t c_92, ← e_32, ← e_41, ← e_50, ← e_66, ← e_78, ← e_89, fStop, if_true, if_false, Bool.false_eq_true, ↓reduceIte]); rw [e_89])) hP hD hS (lv_sub hl [0, 1] rfl)
                      · skip
                        have c_92 : ((fTake T s_78 32).1) = false := bI_0 c_92
                        refine lv_iconst (v := 0) hx hb d_Reader_readVersions_95 (by decide) ?_
                        exact hret H locs s_89 false _ _ hP hD hS (pr2 (by first | (rw [hF]; ((try simp only [fVerL]) <;> simp only [fVerL, if_neg c_26, c_35, c_44, c_53, if_neg c_72, c_81, c_92, bnd_t c_35, bnd_t c_44, bnd_t c_53, bnd_t c_81, bnd_f c_92, ← e_32, ← e_41, ← e_50, ← e_66, ← e_78, ← e_89, fStop, if_true, if_false, Bool.false_eq_true, ↓reduceIte]); done) | (rw [hF]; ((try simp only [fVerL]) <;> simp only [fVerL, if_neg c_26, c_35, c_44, c_53, if_neg c_72, c_81, c_92, bnd_t c_35, bnd_t c_44, bnd_t c_53, bnd_t c_81, bnd_f c_92, ← e_32, ← e_41, ← e_50, ← e_66, ← e_78, ← e_89, fStop, if_true, if_false, Bool.false_eq_true, ↓reduceIte]); with_reducible rfl) | (rw [hF]; ((try simp only [fVerL]) <;> simp only [fVerL, if_neg c_26, c_35, c_44, c_53, if_neg c_72, c_81, c_92, bnd_t c_35, bnd_t c_44, bnd_t c_53, bnd_t c_81, bnd_f c_92, ← e_32, ← e_41, ← e_50, ← e_66, ← e_78, ← e_89, fStop, if_true, if_false, Bool.false_eq_true, ↓reduceIte]); rw [e_89]))) d_Reader_readVersions_96
                    · skip
                      have c_81 : ((fSkip T s_66 44).1) = false := bI_0 c_81
                      refine lv_iconst (v := 1) hx hb d_Reader_readVersions_84 (by decide) ?_
                      exact hret H locs s_78 true _ _ hP hD hS (pr2 (by first | (rw [hF]; ((try simp only [fVerL]) <;> simp only [fVerL, if_neg c_26, c_35, c_44, c_53, if_neg c_72, c_81, bnd_t c_35, bnd_t c_44, bnd_t c_53, bnd_f c_81, ← e_32, ← e_41, ← e_50, ← e_66, ← e_78, fStop, if_true, if_false, Bool.false_eq_true, ↓reduceIte]); done) | (rw [hF]; ((try simp only [fVerL]) <;> simp only [fVerL, if_neg c_26, c_35, c_44, c_53, if_neg c_72, c_81, bnd_t c_35, bnd_t c_44, bnd_t c_53, bnd_f c_81, ← e_32, ← e_41, ← e_50, ← e_66, ← e_78, fStop, if_true, if_false, Bool.false_eq_true, ↓reduceIte]); with_reducible rfl) | (rw [hF]; ((try simp only [fVerL]) <;> simp only [fVerL, if_neg c_26, c_35, c_44, c_53, if_neg c_72, c_81, bnd_t c_35, bnd_t c_44, bnd_t c_53, bnd_f c_81, ← e_32, ← e_41, ← e_50, ← e_66, ← e_78, fStop, if_true, if_false, Bool.false_eq_true, ↓reduceIte]); rw [e_78]))) d_Reader_readVersions_85
                · skip
                  have c_53 : ((fTake T s_41 34).1) = false := bI_0 c_53
                  refine lv_iconst (v := 0) hx hb d_Reader_readVersions_56 (by decide) ?_
                  exact hret H locs s_50 false _ _ hP hD hS (pr2 (by first | (rw [hF]; ((try simp only [fVerL]) <;> simp only [fVerL, if_neg c_26, c_35, c_44, c_53, bnd_t c_35, bnd_t c_44, bnd_f c_53, ← e_32, ← e_41, ← e_50, fStop, if_true, if_false, Bool.false_eq_true, ↓reduceIte]); done) | (rw [hF]; ((try simp only [fVerL]) <;> simp only [fVerL, if_neg c_26, c_35, c_44, c_53, bnd_t c_35, bnd_t c_44, bnd_f c_53, ← e_32, ← e_41, ← e_50, fStop, if_true, if_false, Bool.false_eq_true, ↓reduceIte]); with_reducible rfl) | (rw [hF]; ((try simp only [fVerL]) <;> simp only [fVerL, if_neg c_26, c_35, c_44, c_53, bnd_t c_35, bnd_t c_44, bnd_f c_53, ← e_32, ← e_41, ← e_50, fStop, if_true, if_false, Bool.false_eq_true, ↓reduceIte]); rw [e_50]))) d_Reader_readVersions_57
      exact loop23 8 1 s_3 H locs ls (by omega) (by simp only [fVer, c_6, Bool.false_eq_true, ↓reduceIte, ← e_3]) hP hD hS (lv_sub hl [0, 1] rfl)
    · skip
      have c_6 : ((fSkip T st 42).1) = true := bI_1 c_6
      refine lv_aload_n hx hb d_Reader_readVersions_9 rfl (lv_at hl 0 rfl) ?_
      refine va_get (D := D) (ci := 1) (v := .ref (ad 5)) (C := "HeadDesk$Reader") (T := F_Reader) (N := 11) hx hb hts a_Reader hown hX.1 hP 0 rfl rfl 3 (by decide) (hts _ m_1_64) (fun _ h9 => h9) rfl d_Reader_readVersions_10 ?_
      refine lv_bipush (v := 6) hx hb d_Reader_readVersions_13 (by decide) ?_
      refine lv_iconst (v := 1) hx hb d_Reader_readVersions_15 (by decide) ?_
      refine hx_Vv (wr := [(ad 0, .inr (1, [.ref (ad 1), .ref (ad 3), .ref (ad 4), .ref (ad 5), .int (rNm s_3), .int (rKd s_3), .int (rPl s_3), .int (rSk s_3), .int (rNb s_3), .int (rWs s_3), .int (rWe s_3)])), (ad 1, .inr (2, [.ref (ad 2), .int (T.2)])), (ad 2, .inl (cd 0, 300, .inl T.1)), (ad 3, .inl (cd 1, 100, .inl (rNs s_3))), (ad 4, .inl (cd 2, 100, .inl (rNe s_3)))]) (As := [.int 6, .int 1]) (rest := []) hI (c_Head_set (ah := ad 5) (av := ad 6) (ar := ad 7) (cv := cd 3) (cr := cd 4) (tv := 3) (tr := 4) rfl rfl (rVs s_3, rVr s_3) 6 1) (cw_V (C := "HeadDesk$Head") 2 hts m_2_22 m_2_23 m_2_24 m_1_4 m_2_25 (by decide +kernel) ⟨by decide, by decide⟩) hX hA hP hD hS [5, 6, 7] [0, 1, 2, 3, 4] rfl rfl (by decide) (by decide) (by decide) (va_recv hX.1 hP (ci := 0) (q0 := 5) rfl rfl) rfl hl.1 rfl (Nat.le_of_ble_eq_true rfl) d_Reader_readVersions_16 ⟨Nat.zero_le _, Nat.zero_le _⟩ (fun H locs hP hD hS => ?_)
      obtain ⟨s_16, e_16⟩ : ∃ z : RS, z = sVs s_3 (hSet (rVs s_3) 6 1) := ⟨_, rfl⟩
      have hP : va_P D vwCl (rdW ad cd T s_16) H := by rw [e_16]; exact hP.sub [0, 1, 2, 3, 4, 5, 6, 7] rfl
      have hD : va_D A (rdW ad cd T s_16) := by rw [e_16]; exact hD.sub [0, 1, 2, 3, 4, 5, 6, 7] (by decide) rfl
      refine lv_iconst (v := 1) hx hb d_Reader_readVersions_19 (by decide) ?_
      exact hret H locs s_16 true _ _ hP hD hS (pr2 (by first | (simp only [fVer, c_6, bnd_t c_6, ← e_3, ← e_16, fStop, if_true, if_false, Bool.false_eq_true, ↓reduceIte]; done) | (simp only [fVer, c_6, bnd_t c_6, ← e_3, ← e_16, fStop, if_true, if_false, Bool.false_eq_true, ↓reduceIte]; with_reducible rfl) | (simp only [fVer, c_6, bnd_t c_6, ← e_3, ← e_16, fStop, if_true, if_false, Bool.false_eq_true, ↓reduceIte]; rw [e_16]))) d_Reader_readVersions_20
  rw [hH, hlo] at goal
  exact goal
