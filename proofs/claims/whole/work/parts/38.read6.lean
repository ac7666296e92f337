variable {l : Launch} {D : va_G} {ad : Nat → Nat} {cd : Nat → ClassId} {adK adV : Nat → Nat} {tF : Nat} {T : TX} {tys : List (ClassId × FieldType)}

set_option maxHeartbeats 4000000 in
set_option maxRecDepth 100000 in
theorem c_Reader_readText (hT : T.2 ≤ 300) (st : RS) (x : Int32) : hx_Mz l D (tyH cd) adK adV tF (rdW ad cd T) y_Reader_readText w_Reader_readText (rmD 9) [.ref (ad 0), .int x] st ((fTxt T st x).1) ((fTxt T st x).2) := by
  refine hx_Mz.of (cc := b_Reader_readText) (maxL := 3) (by decide) rfl (Nat.le_of_ble_eq_true rfl) ?_
  intro p e s m below meth c A Q ls hI hX hA hP hD hS hl hret
  obtain ⟨hx, hb, hml, hown, hts⟩ := id hI
  have hts : ∀ w ∈ aw, w.before ([.ref (ad 0), .int x] : List Value).toArray s = true := fun w h => hts w (List.mem_cons_of_mem _ h)
  have hown : s.vm.findClass "HeadDesk$Reader" = some m.cls := hown
  have hI : hx_In p s m ([.ref (ad 0), .int x] : List Value).toArray c b_Reader_readText 3 "HeadDesk$Reader" aw := ⟨hx, hb, hml, hown, hts⟩
  have hP : va_P D vwCl (rdW ad cd T st) s.heap := hP
  obtain ⟨H, hH⟩ : ∃ H, H = s.heap := ⟨_, rfl⟩
  obtain ⟨locs, hlo⟩ : ∃ locs : List Loc, locs = [] := ⟨_, rfl⟩
  have hS : va_S A s.heap H locs := by rw [hH, hlo]; exact hS
  have hP : va_P D vwCl (rdW ad cd T st) H := by rw [hH]; exact hP
  have hl : lv_has ls 3 [(0, .ref (ad 0)), (1, .int x)] := hl
  have goal : W p l e (rmD 9) s m ([.ref (ad 0), .int x] : List Value).toArray below meth c H locs 0 0 Q (F0 m 0 ls []) := by
    refine lv_aload_n hx hb d_Reader_readText_0 rfl (lv_at hl 0 rfl) ?_
    refine lv_iload_n hx hb d_Reader_readText_1 rfl (lv_at hl 1 rfl) ?_
    refine va_put (D := D) (ci := 1) (v := .int x) (ty := .int) (C := "HeadDesk$Reader") (T := F_Reader) (N := 11) hx hb hts a_Reader t_Reader k_Reader n_Reader hown hX.1 hP hD hS 0 rfl rfl 5 (by decide) (hts _ m_1_66) (fun _ h9 => h9) rfl (by decide +kernel) rfl rfl (Nat.le_of_ble_eq_true rfl) d_Reader_readText_2 (fun H locs hP hD hS => ?_)
    have hP : va_P D vwCl (rdW ad cd T (sKd st x)) H := hP
    have hD : va_D A (rdW ad cd T (sKd st x)) := hD
    refine lv_aload_n hx hb d_Reader_readText_5 rfl (lv_at hl 0 rfl) ?_
    refine lv_iconst (v := 0) hx hb d_Reader_readText_6 (by decide) ?_
    refine va_put (D := D) (ci := 1) (v := .int 0) (ty := .int) (C := "HeadDesk$Reader") (T := F_Reader) (N := 11) hx hb hts a_Reader t_Reader k_Reader n_Reader hown hX.1 hP hD hS 0 rfl rfl 4 (by decide) (hts _ m_1_65) (fun _ h9 => h9) rfl (by decide +kernel) rfl rfl (Nat.le_of_ble_eq_true rfl) d_Reader_readText_7 (fun H locs hP hD hS => ?_)
    have hP : va_P D vwCl (rdW ad cd T (sNm (sKd st x) 0)) H := hP
    have hD : va_D A (rdW ad cd T (sNm (sKd st x) 0)) := hD
    refine lv_aload_n hx hb d_Reader_readText_10 rfl (lv_at hl 0 rfl) ?_
    refine lv_iconst (v := 0) hx hb d_Reader_readText_11 (by decide) ?_
    refine va_put (D := D) (ci := 1) (v := .int 0) (ty := .int) (C := "HeadDesk$Reader") (T := F_Reader) (N := 11) hx hb hts a_Reader t_Reader k_Reader n_Reader hown hX.1 hP hD hS 0 rfl rfl 6 (by decide) (hts _ m_1_67) (fun _ h9 => h9) rfl (by decide +kernel) rfl rfl (Nat.le_of_ble_eq_true rfl) d_Reader_readText_12 (fun H locs hP hD hS => ?_)
    have hP : va_P D vwCl (rdW ad cd T (sPl (sNm (sKd st x) 0) 0)) H := hP
    have hD : va_D A (rdW ad cd T (sPl (sNm (sKd st x) 0) 0)) := hD
    refine lv_aload_n hx hb d_Reader_readText_15 rfl (lv_at hl 0 rfl) ?_
    refine lv_iconst (v := (-1)) hx hb d_Reader_readText_16 (by decide) ?_
    refine va_put (D := D) (ci := 1) (v := .int (-1)) (ty := .int) (C := "HeadDesk$Reader") (T := F_Reader) (N := 11) hx hb hts a_Reader t_Reader k_Reader n_Reader hown hX.1 hP hD hS 0 rfl rfl 7 (by decide) (hts _ m_1_68) (fun _ h9 => h9) rfl (by decide +kernel) rfl rfl (Nat.le_of_ble_eq_true rfl) d_Reader_readText_17 (fun H locs hP hD hS => ?_)
    have hP : va_P D vwCl (rdW ad cd T (sSk (sPl (sNm (sKd st x) 0) 0) (-1))) H := hP
    have hD : va_D A (rdW ad cd T (sSk (sPl (sNm (sKd st x) 0) 0) (-1))) := hD
    refine lv_aload_n hx hb d_Reader_readText_20 rfl (lv_at hl 0 rfl) ?_
    refine va_get (D := D) (ci := 1) (v := .ref (ad 5)) (C := "HeadDesk$Reader") (T := F_Reader) (N := 11) hx hb hts a_Reader hown hX.1 hP 0 rfl rfl 3 (by decide) (hts _ m_1_64) (fun _ h9 => h9) rfl d_Reader_readText_21 ?_
    refine hx_Vv (wr := [(ad 0, .inr (1, [.ref (ad 1), .ref (ad 3), .ref (ad 4), .ref (ad 5), .int (0), .int (x), .int (0), .int ((-1)), .int (rNb st), .int (rWs st), .int (rWe st)])), (ad 1, .inr (2, [.ref (ad 2), .int (T.2)])), (ad 2, .inl (cd 0, 300, .inl T.1)), (ad 3, .inl (cd 1, 100, .inl (rNs st))), (ad 4, .inl (cd 2, 100, .inl (rNe st)))]) (As := []) (rest := []) hI (c_Head_clear (ah := ad 5) (av := ad 6) (ar := ad 7) (cv := cd 3) (cr := cd 4) (tv := 3) (tr := 4) rfl rfl (rVs st, rVr st) ) (cw_V (C := "HeadDesk$Head") 0 hts m_2_7 m_2_8 m_2_9 m_1_4 m_2_10 (by decide +kernel) ⟨by decide, by decide⟩) hX hA hP hD hS [5, 6, 7] [0, 1, 2, 3, 4] rfl rfl (by decide) (by decide) (by decide) (va_recv hX.1 hP (ci := 0) (q0 := 5) rfl rfl) rfl hl.1 rfl (Nat.le_of_ble_eq_true rfl) d_Reader_readText_24 ⟨Nat.zero_le _, Nat.zero_le _⟩ (fun H locs hP hD hS => ?_)
    obtain ⟨s_24, e_24⟩ : ∃ z : RS, z = sVs (sSk (sPl (sNm (sKd st x) 0) 0) (-1)) (va_cpy at0 (rVs st) 0 0 18) := ⟨_, rfl⟩
    have hP : va_P D vwCl (rdW ad cd T s_24) H := by rw [e_24]; exact hP.sub [0, 1, 2, 3, 4, 5, 6, 7] rfl
    have hD : va_D A (rdW ad cd T s_24) := by rw [e_24]; exact hD.sub [0, 1, 2, 3, 4, 5, 6, 7] (by decide) rfl
    refine lv_aload_n hx hb d_Reader_readText_27 rfl (lv_at hl 0 rfl) ?_
    refine hx_Vz (wr := []) (As := []) (rest := []) hI (c_Reader_readFirstLine hT s_24 ) (cw_V (C := "HeadDesk$Reader") 0 hts m_2_14 m_2_16 ms_2 m_1_2 m_2_17 (by decide +kernel) ⟨by decide, by decide⟩) hX hA hP hD hS [0, 1, 2, 3, 4, 5, 6, 7] [] rfl rfl (by decide) (by decide) (by decide) (va_recv hX.1 hP (ci := 1) (q0 := 0) rfl rfl) rfl hl.1 rfl (Nat.le_of_ble_eq_true rfl) d_Reader_readText_28 ⟨Nat.zero_le _, Nat.zero_le _⟩ (fun H locs hP hD hS => ?_)
    obtain ⟨s_28, e_28⟩ : ∃ z : RS, z = (fFst T s_24).2 := ⟨_, rfl⟩
    have hP : va_P D vwCl (rdW ad cd T s_28) H := by rw [e_28]; exact hP
    have hD : va_D A (rdW ad cd T s_28) := by rw [e_28]; exact hD
    refine lv_if_ne (tgt := 36) hx hb d_Reader_readText_31 (by decide) (fun c_31 => ?_) (fun c_31 => ?_)
    · skip
      have c_31 : ((fFst T s_24).1) = true := bI_1 c_31
      refine lv_iconst (v := 0) hx hb d_Reader_readText_36 (by decide) ?_
      refine lv_istore_n (lv' := [(2, .int 0), (0, .ref (ad 0)), (1, .int x)]) hx hb d_Reader_readText_37 rfl hl (by decide) rfl (fun ls hl => ?_)
      have loop38 : ∀ (k : Nat) (j : Nat) (s1 : RS) (H : Heap) (locs : List Loc) (ls : Array Slot), j + k = 101 → 0 ≤ rNm s1 → fTxt T st x = fTxtL T k s1 → va_P D vwCl (rdW ad cd T s1) H → va_D A (rdW ad cd T s1) → va_S A s.heap H locs → lv_has ls 3 [(2, .int (nI j)), (0, .ref (ad 0)), (1, .int x)] → W p l e (rmD 9) s m ([.ref (ad 0), .int x] : List Value).toArray below meth c H locs 0 0 Q (F0 m 38 ls []) := by
        intro k
        induction k with
        | zero =>
          intro j s1 H locs ls hj hN hF hP hD hS hl
          refine lv_iload_n hx hb d_Reader_readText_38 rfl (lv_at hl 0 rfl) ?_
          refine lv_bipush (v := 100) hx hb d_Reader_readText_39 (by decide) ?_
          refine lv_icmp_gt (tgt := 109) hx hb d_Reader_readText_41 (by decide) (fun c_41 => ?_) (fun c_41 => ?_)
          · skip
            have c_41 : (100 < nI j) := c_41
            refine lv_aload_n hx hb d_Reader_readText_109 rfl (lv_at hl 1 rfl) ?_
            refine lv_aload_n hx hb d_Reader_readText_110 rfl (lv_at hl 1 rfl) ?_
            refine va_get (D := D) (ci := 1) (v := .int (rPl s1)) (C := "HeadDesk$Reader") (T := F_Reader) (N := 11) hx hb hts a_Reader hown hX.1 hP 0 rfl rfl 6 (by decide) (hts _ m_1_67) (fun _ h9 => h9) rfl d_Reader_readText_111 ?_
            refine hx_Vz (wr := []) (As := [.int (rPl s1)]) (rest := []) hI (c_Reader_stop hT s1 (rPl s1)) (cw_V (C := "HeadDesk$Reader") 1 hts m_2_87 m_2_89 ms_6 m_1_2 m_2_90 (by decide +kernel) ⟨by decide, by decide⟩) hX hA hP hD hS [0, 1, 2, 3, 4, 5, 6, 7] [] rfl rfl (by decide) (by decide) (by decide) (va_recv hX.1 hP (ci := 1) (q0 := 0) rfl rfl) rfl hl.1 rfl (Nat.le_of_ble_eq_true rfl) d_Reader_readText_114 ⟨Nat.zero_le _, Nat.zero_le _⟩ (fun H locs hP hD hS => ?_)
            obtain ⟨s_114, e_114⟩ : ∃ z : RS, z = sSk s1 (rPl s1) := ⟨_, rfl⟩
            have hP : va_P D vwCl (rdW ad cd T s_114) H := by rw [e_114]; exact hP
            have hD : va_D A (rdW ad cd T s_114) := by rw [e_114]; exact hD
            exact hret H locs s_114 false _ _ hP hD hS (pr2 (by first | (rw [hF]; ((try simp only [fTxtL]) <;> simp only [fTxtL, fEnd, if_pos c_41, ← e_114, fStop, if_true, if_false, Bool.false_eq_true, ↓reduceIte]); done) | (rw [hF]; ((try simp only [fTxtL]) <;> simp only [fTxtL, fEnd, if_pos c_41, ← e_114, fStop, if_true, if_false, Bool.false_eq_true, ↓reduceIte]); with_reducible rfl) | (rw [hF]; ((try simp only [fTxtL]) <;> simp only [fTxtL, fEnd, if_pos c_41, ← e_114, fStop, if_true, if_false, Bool.false_eq_true, ↓reduceIte]); rw [e_114]))) d_Reader_readText_117
          · skip
            exact absurd (nI_tyes (N := 100) rfl (by omega) (by omega)) c_41
        | succ k ih =>
          intro j s1 H locs ls hj hN hF hP hD hS hl
          refine lv_iload_n hx hb d_Reader_readText_38 rfl (lv_at hl 0 rfl) ?_
          refine lv_bipush (v := 100) hx hb d_Reader_readText_39 (by decide) ?_
          refine lv_icmp_gt (tgt := 109) hx hb d_Reader_readText_41 (by decide) (fun c_41 => ?_) (fun c_41 => ?_)
          · skip
            exact absurd c_41 (nI_tno (N := 100) rfl (by omega) (by omega))
          · skip
            have c_41 : ¬ (100 < nI j) := c_41
            refine lv_aload_n hx hb d_Reader_readText_44 rfl (lv_at hl 1 rfl) ?_
            refine lv_bipush (v := 10) hx hb d_Reader_readText_45 (by decide) ?_
            refine hx_Vz (wr := []) (As := [.int 10]) (rest := []) hI (c_Reader_skip hT s1 10) (cw_V (C := "HeadDesk$Reader") 1 hts m_2_108 m_2_110 ms_10 m_1_2 m_2_111 (by decide +kernel) ⟨by decide, by decide⟩) hX hA hP hD hS [0, 1, 2, 3, 4, 5, 6, 7] [] rfl rfl (by decide) (by decide) (by decide) (va_recv hX.1 hP (ci := 1) (q0 := 0) rfl rfl) rfl hl.1 rfl (Nat.le_of_ble_eq_true rfl) d_Reader_readText_47 ⟨Nat.zero_le _, Nat.zero_le _⟩ (fun H locs hP hD hS => ?_)
            obtain ⟨s_47, e_47⟩ : ∃ z : RS, z = (fSkip T s1 10).2 := ⟨_, rfl⟩
            have hP : va_P D vwCl (rdW ad cd T s_47) H := by rw [e_47]; exact hP
            have hD : va_D A (rdW ad cd T s_47) := by rw [e_47]; exact hD
            refine lv_if_eq (tgt := 78) hx hb d_Reader_readText_50 (by decide) (fun c_50 => ?_) (fun c_50 => ?_)
            · skip
              have c_50 : ((fSkip T s1 10).1) = false := bI_0 c_50
              refine lv_aload_n hx hb d_Reader_readText_78 rfl (lv_at hl 1 rfl) ?_
              refine hx_Vz (wr := []) (As := []) (rest := []) hI (c_Reader_readName hT s_47 (by rw [e_47, nm_skip]; exact hN)) (cw_V (C := "HeadDesk$Reader") 0 hts m_2_112 m_2_114 ms_11 m_1_2 m_2_115 (by decide +kernel) ⟨by decide, by decide⟩) hX hA hP hD hS [0, 1, 2, 3, 4, 5, 6, 7] [] rfl rfl (by decide) (by decide) (by decide) (va_recv hX.1 hP (ci := 1) (q0 := 0) rfl rfl) rfl hl.1 rfl (Nat.le_of_ble_eq_true rfl) d_Reader_readText_79 ⟨Nat.zero_le _, Nat.zero_le _⟩ (fun H locs hP hD hS => ?_)
              obtain ⟨s_79, e_79⟩ : ∃ z : RS, z = (fNam T s_47).2 := ⟨_, rfl⟩
              have hP : va_P D vwCl (rdW ad cd T s_79) H := by rw [e_79]; exact hP
              have hD : va_D A (rdW ad cd T s_79) := by rw [e_79]; exact hD
              refine lv_if_eq (tgt := 101) hx hb d_Reader_readText_82 (by decide) (fun c_82 => ?_) (fun c_82 => ?_)
              · skip
                have c_82 : ((fNam T s_47).1) = false := bI_0 c_82
                refine lv_iconst (v := 0) hx hb d_Reader_readText_101 (by decide) ?_
                exact hret H locs s_79 false _ _ hP hD hS (pr2 (by first | (rw [hF]; ((try simp only [fTxtL]) <;> simp only [fTxtL, fEnd, if_neg c_41, c_50, c_82, bnd_f c_50, bnd_f c_82, ← e_47, ← e_79, fStop, if_true, if_false, Bool.false_eq_true, ↓reduceIte]); done) | (rw [hF]; ((try simp only [fTxtL]) <;> simp only [fTxtL, fEnd, if_neg c_41, c_50, c_82, bnd_f c_50, bnd_f c_82, ← e_47, ← e_79, fStop, if_true, if_false, Bool.false_eq_true, ↓reduceIte]); with_reducible rfl) | (rw [hF]; ((try simp only [fTxtL]) <;> simp only [fTxtL, fEnd, if_neg c_41, c_50, c_82, bnd_f c_50, bnd_f c_82, ← e_47, ← e_79, fStop, if_true, if_false, Bool.false_eq_true, ↓reduceIte]); rw [e_79]))) d_Reader_readText_102
              · skip
                have c_82 : ((fNam T s_47).1) = true := bI_1 c_82
                refine lv_aload_n hx hb d_Reader_readText_85 rfl (lv_at hl 1 rfl) ?_
                refine hx_Vz (wr := []) (As := []) (rest := []) hI (c_Reader_readValue hT s_79 ) (cw_V (C := "HeadDesk$Reader") 0 hts m_2_131 m_2_133 ms_15 m_1_2 m_2_134 (by decide +kernel) ⟨by decide, by decide⟩) hX hA hP hD hS [0, 1, 2, 3, 4, 5, 6, 7] [] rfl rfl (by decide) (by decide) (by decide) (va_recv hX.1 hP (ci := 1) (q0 := 0) rfl rfl) rfl hl.1 rfl (Nat.le_of_ble_eq_true rfl) d_Reader_readText_86 ⟨Nat.zero_le _, Nat.zero_le _⟩ (fun H locs hP hD hS => ?_)
                obtain ⟨s_86, e_86⟩ : ∃ z : RS, z = (fVal T s_79).2 := ⟨_, rfl⟩
                have hP : va_P D vwCl (rdW ad cd T s_86) H := by rw [e_86]; exact hP
                have hD : va_D A (rdW ad cd T s_86) := by rw [e_86]; exact hD
                refine lv_if_eq (tgt := 101) hx hb d_Reader_readText_89 (by decide) (fun c_89 => ?_) (fun c_89 => ?_)
                · skip
                  have c_89 : ((fVal T s_79).1) = false := bI_0 c_89
                  refine lv_iconst (v := 0) hx hb d_Reader_readText_101 (by decide) ?_
                  exact hret H locs s_86 false _ _ hP hD hS (pr2 (by first | (rw [hF]; ((try simp only [fTxtL]) <;> simp only [fTxtL, fEnd, if_neg c_41, c_50, c_82, c_89, bnd_f c_50, bnd_t c_82, bnd_f c_89, ← e_47, ← e_79, ← e_86, fStop, if_true, if_false, Bool.false_eq_true, ↓reduceIte]); done) | (rw [hF]; ((try simp only [fTxtL]) <;> simp only [fTxtL, fEnd, if_neg c_41, c_50, c_82, c_89, bnd_f c_50, bnd_t c_82, bnd_f c_89, ← e_47, ← e_79, ← e_86, fStop, if_true, if_false, Bool.false_eq_true, ↓reduceIte]); with_reducible rfl) | (rw [hF]; ((try simp only [fTxtL]) <;> simp only [fTxtL, fEnd, if_neg c_41, c_50, c_82, c_89, bnd_f c_50, bnd_t c_82, bnd_f c_89, ← e_47, ← e_79, ← e_86, fStop, if_true, if_false, Bool.false_eq_true, ↓reduceIte]); rw [e_86]))) d_Reader_readText_102
                · skip
                  have c_89 : ((fVal T s_79).1) = true := bI_1 c_89
                  refine lv_aload_n hx hb d_Reader_readText_92 rfl (lv_at hl 1 rfl) ?_
                  refine lv_bipush (v := 10) hx hb d_Reader_readText_93 (by decide) ?_
                  refine hx_Vz (wr := []) (As := [.int 10]) (rest := []) hI (c_Reader_take hT s_86 10) (cw_V (C := "HeadDesk$Reader") 1 hts m_2_93 m_2_95 ms_7 m_1_2 m_2_96 (by decide +kernel) ⟨by decide, by decide⟩) hX hA hP hD hS [0, 1, 2, 3, 4, 5, 6, 7] [] rfl rfl (by decide) (by decide) (by decide) (va_recv hX.1 hP (ci := 1) (q0 := 0) rfl rfl) rfl hl.1 rfl (Nat.le_of_ble_eq_true rfl) d_Reader_readText_95 ⟨Nat.zero_le _, Nat.zero_le _⟩ (fun H locs hP hD hS => ?_)
                  obtain ⟨s_95, e_95⟩ : ∃ z : RS, z = (fTake T s_86 10).2 := ⟨_, rfl⟩
                  have hP : va_P D vwCl (rdW ad cd T s_95) H := by rw [e_95]; exact hP
                  have hD : va_D A (rdW ad cd T s_95) := by rw [e_95]; exact hD
                  refine lv_if_ne (tgt := 103) hx hb d_Reader_readText_98 (by decide) (fun c_98 => ?_) (fun c_98 => ?_)
                  · skip
                    have c_98 : ((fTake T s_86 10).1) = true := bI_1 c_98
                    refine lv_iinc (v := nI (j + 1)) (lv' := [(2, .int (nI (j + 1))), (0, .ref (ad 0)), (1, .int x)]) hx hb d_Reader_readText_103 hl (k := 0) rfl (by rw [nI_succ]; rfl) (by decide) rfl (fun ls hl => ?_)
                    refine lv_goto (tgt := 38) hx hb d_Reader_readText_106 (by decide) ?_
                    exact ih (j + 1) s_95 H locs ls (by omega) (by rw [e_95, nm_take, e_86, nm_val, e_79]; exact nm_nam T _ (by rw [e_47, nm_skip]; exact hN)) (by first | (rw [hF]; ((try simp only [fTxtL]) <;> simp only [fTxtL, fEnd, if_neg c_41, c_50, c_82, c_89, c_98, bnd_f c_50, bnd_t c_82, bnd_t c_89, bnd_t c_98, ← e_47, ← e_79, ← e_86, ← e_95, fStop, if_true, if_false, Bool.false_eq_true, ↓reduceIte]); done) | (rw [hF]; ((try simp only [fTxtL]) <;> simp only [fTxtL, fEnd, if_neg c_41, c_50, c_82, c_89, c_98, bnd_f c_50, bnd_t c_82, bnd_t c_89, bnd_t c_98, ← e_47, ← e_79, ← e_86, ← e_95, fStop, if_true, if_false, Bool.false_eq_true, ↓reduceIte]); with_reducible rfl) | (rw [hF]; ((try simp only [fTxtL]) <;> simp only [fTxtL, fEnd, if_neg c_41, c_50, c_82, c_89, c_98, bnd_f c_50, bnd_t c_82, bnd_t c_89, bnd_t c_98, ← e_47, ← e_79, ← e_86, ← e_95, fStop, if_true, if_false, Bool.false_eq_true, ↓reduceIte]); rw [e_95])) hP hD hS (lv_sub hl [0, 1, 2] rfl)
                  · skip
                    have c_98 : ((fTake T s_86 10).1) = false := bI_0 c_98
                    refine lv_iconst (v := 0) hx hb d_Reader_readText_101 (by decide) ?_
                    exact hret H locs s_95 false _ _ hP hD hS (pr2 (by first | (rw [hF]; ((try simp only [fTxtL]) <;> simp only [fTxtL, fEnd, if_neg c_41, c_50, c_82, c_89, c_98, bnd_f c_50, bnd_t c_82, bnd_t c_89, bnd_f c_98, ← e_47, ← e_79, ← e_86, ← e_95, fStop, if_true, if_false, Bool.false_eq_true, ↓reduceIte]); done) | (rw [hF]; ((try simp only [fTxtL]) <;> simp only [fTxtL, fEnd, if_neg c_41, c_50, c_82, c_89, c_98, bnd_f c_50, bnd_t c_82, bnd_t c_89, bnd_f c_98, ← e_47, ← e_79, ← e_86, ← e_95, fStop, if_true, if_false, Bool.false_eq_true, ↓reduceIte]); with_reducible rfl) | (rw [hF]; ((try simp only [fTxtL]) <;> simp only [fTxtL, fEnd, if_neg c_41, c_50, c_82, c_89, c_98, bnd_f c_50, bnd_t c_82, bnd_t c_89, bnd_f c_98, ← e_47, ← e_79, ← e_86, ← e_95, fStop, if_true, if_false, Bool.false_eq_true, ↓reduceIte]); rw [e_95]))) d_Reader_readText_102
            · skip
              have c_50 : ((fSkip T s1 10).1) = true := bI_1 c_50
              refine lv_aload_n hx hb d_Reader_readText_53 rfl (lv_at hl 1 rfl) ?_
              refine hx_Vi (wr := []) (As := []) (rest := []) hI (c_Reader_mark hT s_47 ) (cw_V (C := "HeadDesk$Reader") 0 hts m_2_41 m_2_43 ms_5 m_1_2 m_2_44 (by decide +kernel) ⟨by decide, by decide⟩) hX hA hP hD hS [0, 1, 2, 3, 4, 5, 6, 7] [] rfl rfl (by decide) (by decide) (by decide) (va_recv hX.1 hP (ci := 1) (q0 := 0) rfl rfl) rfl hl.1 rfl (Nat.le_of_ble_eq_true rfl) d_Reader_readText_54 ⟨Nat.zero_le _, Nat.zero_le _⟩ (fun H locs hP hD hS => ?_)
              have hP : va_P D vwCl (rdW ad cd T s_47) H := hP
              have hD : va_D A (rdW ad cd T s_47) := hD
              refine lv_iconst (v := (-1)) hx hb d_Reader_readText_57 (by decide) ?_
              refine lv_icmp_eq (tgt := 72) hx hb d_Reader_readText_58 (by decide) (fun c_58 => ?_) (fun c_58 => ?_)
              · skip
                have c_58 : (fMark T s_47 = (-1)) := c_58
                refine lv_iconst (v := 1) hx hb d_Reader_readText_72 (by decide) ?_
                refine lv_goto (tgt := 77) hx hb d_Reader_readText_73 (by decide) ?_
                exact hret H locs s_47 true _ _ hP hD hS (pr2 (by first | (rw [hF]; ((try simp only [fTxtL]) <;> simp only [fTxtL, fEnd, if_neg c_41, c_50, if_pos c_58, bnd_t c_50, ← e_47, fStop, if_true, if_false, Bool.false_eq_true, ↓reduceIte]); done) | (rw [hF]; ((try simp only [fTxtL]) <;> simp only [fTxtL, fEnd, if_neg c_41, c_50, if_pos c_58, bnd_t c_50, ← e_47, fStop, if_true, if_false, Bool.false_eq_true, ↓reduceIte]); with_reducible rfl) | (rw [hF]; ((try simp only [fTxtL]) <;> simp only [fTxtL, fEnd, if_neg c_41, c_50, if_pos c_58, bnd_t c_50, ← e_47, fStop, if_true, if_false, Bool.false_eq_true, ↓reduceIte]); rw [e_47]))) d_Reader_readText_77
              · skip
                have c_58 : ¬ (fMark T s_47 = (-1)) := c_58
                refine lv_aload_n hx hb d_Reader_readText_61 rfl (lv_at hl 1 rfl) ?_
                refine lv_aload_n hx hb d_Reader_readText_62 rfl (lv_at hl 1 rfl) ?_
                refine va_get (D := D) (ci := 1) (v := .int (rPl s_47)) (C := "HeadDesk$Reader") (T := F_Reader) (N := 11) hx hb hts a_Reader hown hX.1 hP 0 rfl rfl 6 (by decide) (hts _ m_1_67) (fun _ h9 => h9) rfl d_Reader_readText_63 ?_
                refine hx_Vz (wr := []) (As := [.int (rPl s_47)]) (rest := []) hI (c_Reader_stop hT s_47 (rPl s_47)) (cw_V (C := "HeadDesk$Reader") 1 hts m_2_87 m_2_89 ms_6 m_1_2 m_2_90 (by decide +kernel) ⟨by decide, by decide⟩) hX hA hP hD hS [0, 1, 2, 3, 4, 5, 6, 7] [] rfl rfl (by decide) (by decide) (by decide) (va_recv hX.1 hP (ci := 1) (q0 := 0) rfl rfl) rfl hl.1 rfl (Nat.le_of_ble_eq_true rfl) d_Reader_readText_66 ⟨Nat.zero_le _, Nat.zero_le _⟩ (fun H locs hP hD hS => ?_)
                obtain ⟨s_66, e_66⟩ : ∃ z : RS, z = sSk s_47 (rPl s_47) := ⟨_, rfl⟩
                have hP : va_P D vwCl (rdW ad cd T s_66) H := by rw [e_66]; exact hP
                have hD : va_D A (rdW ad cd T s_66) := by rw [e_66]; exact hD
                refine lv_if_eq (tgt := 76) hx hb d_Reader_readText_69 (by decide) (fun c_69 => ?_) (fun c_69 => ?_)
                · skip
                  have c_69 : false = false := bI_0 c_69
                  refine lv_iconst (v := 0) hx hb d_Reader_readText_76 (by decide) ?_
                  exact hret H locs s_66 false _ _ hP hD hS (pr2 (by first | (rw [hF]; ((try simp only [fTxtL]) <;> simp only [fTxtL, fEnd, if_neg c_41, c_50, if_neg c_58, bnd_t c_50, ← e_47, ← e_66, fStop, if_true, if_false, Bool.false_eq_true, ↓reduceIte]); done) | (rw [hF]; ((try simp only [fTxtL]) <;> simp only [fTxtL, fEnd, if_neg c_41, c_50, if_neg c_58, bnd_t c_50, ← e_47, ← e_66, fStop, if_true, if_false, Bool.false_eq_true, ↓reduceIte]); with_reducible rfl) | (rw [hF]; ((try simp only [fTxtL]) <;> simp only [fTxtL, fEnd, if_neg c_41, c_50, if_neg c_58, bnd_t c_50, ← e_47, ← e_66, fStop, if_true, if_false, Bool.false_eq_true, ↓reduceIte]); rw [e_66]))) d_Reader_readText_77
                · skip
                  exact absurd rfl c_69
      exact loop38 101 0 s_28 H locs ls (by omega) (by rw [e_28, nm_fst, e_24]; exact (by decide : (0 : Int32) ≤ 0)) (by rw [fTxt, ← e_24, bnd_t c_31, ← e_28]) hP hD hS (lv_sub hl [0, 1, 2] rfl)
    · skip
      have c_31 : ((fFst T s_24).1) = false := bI_0 c_31
      refine lv_iconst (v := 0) hx hb d_Reader_readText_34 (by decide) ?_
      exact hret H locs s_28 false _ _ hP hD hS (pr2 (by first | (simp only [fTxt, c_31, bnd_f c_31, ← e_24, ← e_28, fStop, if_true, if_false, Bool.false_eq_true, ↓reduceIte]; done) | (simp only [fTxt, c_31, bnd_f c_31, ← e_24, ← e_28, fStop, if_true, if_false, Bool.false_eq_true, ↓reduceIte]; with_reducible rfl) | (simp only [fTxt, c_31, bnd_f c_31, ← e_24, ← e_28, fStop, if_true, if_false, Bool.false_eq_true, ↓reduceIte]; rw [e_28]))) d_Reader_readText_35
  rw [hH, hlo] at goal
  exact goal
