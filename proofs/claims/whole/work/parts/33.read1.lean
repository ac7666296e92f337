variable {l : Launch} {D : va_G} {ad : Nat → Nat} {cd : Nat → ClassId} {adK adV : Nat → Nat} {tF : Nat} {T : TX} {tys : List (ClassId × FieldType)}

set_option maxHeartbeats 4000000 in
set_option maxRecDepth 100000 in
theorem c_Reader_takeNumber (hT : T.2 ≤ 300) (st : RS) (x : Int32) : hx_Mz l D (tyH cd) adK adV tF (rdW ad cd T) y_Reader_takeNumber w_Reader_takeNumber (rmD 3) [.ref (ad 0), .int x] st ((fNum T st x).1) ((fNum T st x).2) := by
  refine hx_Mz.of (cc := b_Reader_takeNumber) (maxL := 4) (by decide) rfl (Nat.le_of_ble_eq_true rfl) ?_
  intro p e s m below meth c A Q ls hI hX hA hP hD hS hl hret
  obtain ⟨hx, hb, hml, hown, hts⟩ := id hI
  have hts : ∀ w ∈ aw, w.before ([.ref (ad 0), .int x] : List Value).toArray s = true := fun w h => hts w (List.mem_cons_of_mem _ h)
  have hown : s.vm.findClass "HeadDesk$Reader" = some m.cls := hown
  have hI : hx_In p s m ([.ref (ad 0), .int x] : List Value).toArray c b_Reader_takeNumber 4 "HeadDesk$Reader" aw := ⟨hx, hb, hml, hown, hts⟩
  have hP : va_P D vwCl (rdW ad cd T st) s.heap := hP
  obtain ⟨H, hH⟩ : ∃ H, H = s.heap := ⟨_, rfl⟩
  obtain ⟨locs, hlo⟩ : ∃ locs : List Loc, locs = [] := ⟨_, rfl⟩
  have hS : va_S A s.heap H locs := by rw [hH, hlo]; exact hS
  have hP : va_P D vwCl (rdW ad cd T st) H := by rw [hH]; exact hP
  have hl : lv_has ls 4 [(0, .ref (ad 0)), (1, .int x)] := hl
  have goal : W p l e (rmD 3) s m ([.ref (ad 0), .int x] : List Value).toArray below meth c H locs 0 0 Q (F0 m 0 ls []) := by
    refine lv_aload_n hx hb d_Reader_takeNumber_0 rfl (lv_at hl 0 rfl) ?_
    refine va_get (D := D) (ci := 1) (v := .int (rPl st)) (C := "HeadDesk$Reader") (T := F_Reader) (N := 11) hx hb hts a_Reader hown hX.1 hP 0 rfl rfl 6 (by decide) (hts _ m_1_67) (fun _ h9 => h9) rfl d_Reader_takeNumber_1 ?_
    refine lv_istore_n (lv' := [(2, .int (rPl st)), (0, .ref (ad 0)), (1, .int x)]) hx hb d_Reader_takeNumber_4 rfl hl (by decide) rfl (fun ls hl => ?_)
    refine lv_aload_n hx hb d_Reader_takeNumber_5 rfl (lv_at hl 1 rfl) ?_
    refine lv_iconst (v := 0) hx hb d_Reader_takeNumber_6 (by decide) ?_
    refine va_put (D := D) (ci := 1) (v := .int 0) (ty := .int) (C := "HeadDesk$Reader") (T := F_Reader) (N := 11) hx hb hts a_Reader t_Reader k_Reader n_Reader hown hX.1 hP hD hS 0 rfl rfl 8 (by decide) (hts _ m_1_69) (fun _ h9 => h9) rfl (by decide +kernel) rfl rfl (Nat.le_of_ble_eq_true rfl) d_Reader_takeNumber_7 (fun H locs hP hD hS => ?_)
    have hP : va_P D vwCl (rdW ad cd T (sNb st 0)) H := hP
    have hD : va_D A (rdW ad cd T (sNb st 0)) := hD
    refine lv_iconst (v := 0) hx hb d_Reader_takeNumber_10 (by decide) ?_
    refine lv_istore_n (lv' := [(3, .int 0), (2, .int (rPl st)), (0, .ref (ad 0)), (1, .int x)]) hx hb d_Reader_takeNumber_11 rfl hl (by decide) rfl (fun ls hl => ?_)
    have loop12 : ∀ (k : Nat) (j : Nat) (s1 : RS) (H : Heap) (locs : List Loc) (ls : Array Slot), j + k = 5 → fNum T st x = fNumE (fNumL T k s1) (rPl st) x → va_P D vwCl (rdW ad cd T s1) H → va_D A (rdW ad cd T s1) → va_S A s.heap H locs → lv_has ls 4 [(3, .int (nI j)), (2, .int (rPl st)), (0, .ref (ad 0)), (1, .int x)] → W p l e (rmD 3) s m ([.ref (ad 0), .int x] : List Value).toArray below meth c H locs 0 0 Q (F0 m 12 ls []) := by
      intro k
      induction k with
      | zero =>
        intro j s1 H locs ls hj hF hP hD hS hl
        refine lv_iload_n hx hb d_Reader_takeNumber_12 rfl (lv_at hl 0 rfl) ?_
        refine lv_iconst (v := 5) hx hb d_Reader_takeNumber_13 (by decide) ?_
        refine lv_icmp_ge (tgt := 62) hx hb d_Reader_takeNumber_14 (by decide) (fun c_14 => ?_) (fun c_14 => ?_)
        · skip
          have c_14 : (5 ≤ nI j) := c_14
          refine lv_aload_n hx hb d_Reader_takeNumber_62 rfl (lv_at hl 2 rfl) ?_
          refine va_get (D := D) (ci := 1) (v := .int (rPl s1)) (C := "HeadDesk$Reader") (T := F_Reader) (N := 11) hx hb hts a_Reader hown hX.1 hP 0 rfl rfl 6 (by decide) (hts _ m_1_67) (fun _ h9 => h9) rfl d_Reader_takeNumber_63 ?_
          refine lv_iload_n hx hb d_Reader_takeNumber_66 rfl (lv_at hl 1 rfl) ?_
          refine lv_icmp_ne (tgt := 79) hx hb d_Reader_takeNumber_67 (by decide) (fun c_67 => ?_) (fun c_67 => ?_)
          · skip
            have c_67 : ¬ (rPl s1 = rPl st) := c_67
            refine lv_aload_n hx hb d_Reader_takeNumber_79 rfl (lv_at hl 2 rfl) ?_
            refine va_get (D := D) (ci := 1) (v := .int (rNb s1)) (C := "HeadDesk$Reader") (T := F_Reader) (N := 11) hx hb hts a_Reader hown hX.1 hP 0 rfl rfl 8 (by decide) (hts _ m_1_69) (fun _ h9 => h9) rfl d_Reader_takeNumber_80 ?_
            refine lv_iload_n hx hb d_Reader_takeNumber_83 rfl (lv_at hl 3 rfl) ?_
            refine lv_icmp_le (tgt := 95) hx hb d_Reader_takeNumber_84 (by decide) (fun c_84 => ?_) (fun c_84 => ?_)
            · skip
              have c_84 : (rNb s1 ≤ x) := c_84
              refine lv_iconst (v := 1) hx hb d_Reader_takeNumber_95 (by decide) ?_
              refine lv_goto (tgt := 100) hx hb d_Reader_takeNumber_96 (by decide) ?_
              exact hret H locs s1 true _ _ hP hD hS (pr2 (by first | (rw [hF]; ((try simp only [fNumL]) <;> simp only [fNumL, fNumE, if_pos c_14, if_neg c_67, if_pos c_84, fStop, if_true, if_false, Bool.false_eq_true, ↓reduceIte]); done) | (rw [hF]; ((try simp only [fNumL]) <;> simp only [fNumL, fNumE, if_pos c_14, if_neg c_67, if_pos c_84, fStop, if_true, if_false, Bool.false_eq_true, ↓reduceIte]); with_reducible rfl))) d_Reader_takeNumber_100
            · skip
              have c_84 : ¬ (rNb s1 ≤ x) := c_84
              refine lv_aload_n hx hb d_Reader_takeNumber_87 rfl (lv_at hl 2 rfl) ?_
              refine lv_iload_n hx hb d_Reader_takeNumber_88 rfl (lv_at hl 1 rfl) ?_
              refine hx_Vz (wr := []) (As := [.int (rPl st)]) (rest := []) hI (c_Reader_stop hT s1 (rPl st)) (cw_V (C := "HeadDesk$Reader") 1 hts m_2_87 m_2_89 ms_6 m_1_2 m_2_90 (by decide +kernel) ⟨by decide, by decide⟩) hX hA hP hD hS [0, 1, 2, 3, 4, 5, 6, 7] [] rfl rfl (by decide) (by decide) (by decide) (va_recv hX.1 hP (ci := 1) (q0 := 0) rfl rfl) rfl hl.1 rfl (Nat.le_of_ble_eq_true rfl) d_Reader_takeNumber_89 ⟨Nat.zero_le _, Nat.zero_le _⟩ (fun H locs hP hD hS => ?_)
              obtain ⟨s_89, e_89⟩ : ∃ z : RS, z = sSk s1 (rPl st) := ⟨_, rfl⟩
              have hP : va_P D vwCl (rdW ad cd T s_89) H := by rw [e_89]; exact hP
              have hD : va_D A (rdW ad cd T s_89) := by rw [e_89]; exact hD
              refine lv_if_eq (tgt := 99) hx hb d_Reader_takeNumber_92 (by decide) (fun c_92 => ?_) (fun c_92 => ?_)
              · skip
                have c_92 : false = false := bI_0 c_92
                refine lv_iconst (v := 0) hx hb d_Reader_takeNumber_99 (by decide) ?_
                exact hret H locs s_89 false _ _ hP hD hS (pr2 (by first | (rw [hF]; ((try simp only [fNumL]) <;> simp only [fNumL, fNumE, if_pos c_14, if_neg c_67, if_neg c_84, ← e_89, fStop, if_true, if_false, Bool.false_eq_true, ↓reduceIte]); done) | (rw [hF]; ((try simp only [fNumL]) <;> simp only [fNumL, fNumE, if_pos c_14, if_neg c_67, if_neg c_84, ← e_89, fStop, if_true, if_false, Bool.false_eq_true, ↓reduceIte]); with_reducible rfl) | (rw [hF]; ((try simp only [fNumL]) <;> simp only [fNumL, fNumE, if_pos c_14, if_neg c_67, if_neg c_84, ← e_89, fStop, if_true, if_false, Bool.false_eq_true, ↓reduceIte]); rw [e_89]))) d_Reader_takeNumber_100
              · skip
                exact absurd rfl c_92
          · skip
            have c_67 : (rPl s1 = rPl st) := c_67
            refine lv_aload_n hx hb d_Reader_takeNumber_70 rfl (lv_at hl 2 rfl) ?_
            refine lv_aload_n hx hb d_Reader_takeNumber_71 rfl (lv_at hl 2 rfl) ?_
            refine va_get (D := D) (ci := 1) (v := .int (rPl s1)) (C := "HeadDesk$Reader") (T := F_Reader) (N := 11) hx hb hts a_Reader hown hX.1 hP 0 rfl rfl 6 (by decide) (hts _ m_1_67) (fun _ h9 => h9) rfl d_Reader_takeNumber_72 ?_
            refine hx_Vz (wr := []) (As := [.int (rPl s1)]) (rest := []) hI (c_Reader_stop hT s1 (rPl s1)) (cw_V (C := "HeadDesk$Reader") 1 hts m_2_87 m_2_89 ms_6 m_1_2 m_2_90 (by decide +kernel) ⟨by decide, by decide⟩) hX hA hP hD hS [0, 1, 2, 3, 4, 5, 6, 7] [] rfl rfl (by decide) (by decide) (by decide) (va_recv hX.1 hP (ci := 1) (q0 := 0) rfl rfl) rfl hl.1 rfl (Nat.le_of_ble_eq_true rfl) d_Reader_takeNumber_75 ⟨Nat.zero_le _, Nat.zero_le _⟩ (fun H locs hP hD hS => ?_)
            obtain ⟨s_75, e_75⟩ : ∃ z : RS, z = sSk s1 (rPl s1) := ⟨_, rfl⟩
            have hP : va_P D vwCl (rdW ad cd T s_75) H := by rw [e_75]; exact hP
            have hD : va_D A (rdW ad cd T s_75) := by rw [e_75]; exact hD
            exact hret H locs s_75 false _ _ hP hD hS (pr2 (by first | (rw [hF]; ((try simp only [fNumL]) <;> simp only [fNumL, fNumE, if_pos c_14, if_pos c_67, ← e_75, fStop, if_true, if_false, Bool.false_eq_true, ↓reduceIte]); done) | (rw [hF]; ((try simp only [fNumL]) <;> simp only [fNumL, fNumE, if_pos c_14, if_pos c_67, ← e_75, fStop, if_true, if_false, Bool.false_eq_true, ↓reduceIte]); with_reducible rfl) | (rw [hF]; ((try simp only [fNumL]) <;> simp only [fNumL, fNumE, if_pos c_14, if_pos c_67, ← e_75, fStop, if_true, if_false, Bool.false_eq_true, ↓reduceIte]); rw [e_75]))) d_Reader_takeNumber_78
        · skip
          exact absurd (nI_gyes (N := 5) rfl (by omega) (by omega)) c_14
      | succ k ih =>
        intro j s1 H locs ls hj hF hP hD hS hl
        refine lv_iload_n hx hb d_Reader_takeNumber_12 rfl (lv_at hl 0 rfl) ?_
        refine lv_iconst (v := 5) hx hb d_Reader_takeNumber_13 (by decide) ?_
        refine lv_icmp_ge (tgt := 62) hx hb d_Reader_takeNumber_14 (by decide) (fun c_14 => ?_) (fun c_14 => ?_)
        · skip
          exact absurd c_14 (nI_gno (N := 5) rfl (by omega) (by omega))
        · skip
          have c_14 : ¬ (5 ≤ nI j) := c_14
          refine lv_aload_n hx hb d_Reader_takeNumber_17 rfl (lv_at hl 2 rfl) ?_
          refine hx_Vi (wr := []) (As := []) (rest := []) hI (c_Reader_mark hT s1 ) (cw_V (C := "HeadDesk$Reader") 0 hts m_2_41 m_2_43 ms_5 m_1_2 m_2_44 (by decide +kernel) ⟨by decide, by decide⟩) hX hA hP hD hS [0, 1, 2, 3, 4, 5, 6, 7] [] rfl rfl (by decide) (by decide) (by decide) (va_recv hX.1 hP (ci := 1) (q0 := 0) rfl rfl) rfl hl.1 rfl (Nat.le_of_ble_eq_true rfl) d_Reader_takeNumber_18 ⟨Nat.zero_le _, Nat.zero_le _⟩ (fun H locs hP hD hS => ?_)
          have hP : va_P D vwCl (rdW ad cd T s1) H := hP
          have hD : va_D A (rdW ad cd T s1) := hD
          refine hx_Sz (wr := [(ad 0, .inr (1, [.ref (ad 1), .ref (ad 3), .ref (ad 4), .ref (ad 5), .int (rNm s1), .int (rKd s1), .int (rPl s1), .int (rSk s1), .int (rNb s1), .int (rWs s1), .int (rWe s1)])), (ad 1, .inr (2, [.ref (ad 2), .int (T.2)])), (ad 2, .inl (cd 0, 300, .inl T.1)), (ad 3, .inl (cd 1, 100, .inl (rNs s1))), (ad 4, .inl (cd 2, 100, .inl (rNe s1))), (ad 5, .inr (0, [.ref (ad 6), .ref (ad 7)])), (ad 6, .inl (cd 3, 18, .inl (rVs s1))), (ad 7, .inl (cd 4, 8, .inl (rVr s1)))]) (As := [.int (fMark T s1)]) (rest := []) hI (c_Reader_isDigit (fMark T s1)) (cw_S 1 hts m_2_105 m_2_106 m_1_2 m_2_107 (by decide +kernel) ⟨by decide, by decide⟩) hX hA hP hD hS [] [0, 1, 2, 3, 4, 5, 6, 7] rfl rfl (by decide) (by decide) (by decide) rfl hl.1 rfl (Nat.le_of_ble_eq_true rfl) d_Reader_takeNumber_21 ⟨Nat.zero_le _, Nat.zero_le _⟩ (fun H locs hP hD hS => ?_)
          have hP : va_P D vwCl (rdW ad cd T s1) H := hP.sub [0, 1, 2, 3, 4, 5, 6, 7] rfl
          have hD : va_D A (rdW ad cd T s1) := hD.sub [0, 1, 2, 3, 4, 5, 6, 7] (by decide) rfl
          refine lv_if_eq (tgt := 62) hx hb d_Reader_takeNumber_24 (by decide) (fun c_24 => ?_) (fun c_24 => ?_)
          · skip
            have c_24 : (isD (fMark T s1)) = false := bI_0 c_24
            refine lv_aload_n hx hb d_Reader_takeNumber_62 rfl (lv_at hl 2 rfl) ?_
            refine va_get (D := D) (ci := 1) (v := .int (rPl s1)) (C := "HeadDesk$Reader") (T := F_Reader) (N := 11) hx hb hts a_Reader hown hX.1 hP 0 rfl rfl 6 (by decide) (hts _ m_1_67) (fun _ h9 => h9) rfl d_Reader_takeNumber_63 ?_
            refine lv_iload_n hx hb d_Reader_takeNumber_66 rfl (lv_at hl 1 rfl) ?_
            refine lv_icmp_ne (tgt := 79) hx hb d_Reader_takeNumber_67 (by decide) (fun c_67 => ?_) (fun c_67 => ?_)
            · skip
              have c_67 : ¬ (rPl s1 = rPl st) := c_67
              refine lv_aload_n hx hb d_Reader_takeNumber_79 rfl (lv_at hl 2 rfl) ?_
              refine va_get (D := D) (ci := 1) (v := .int (rNb s1)) (C := "HeadDesk$Reader") (T := F_Reader) (N := 11) hx hb hts a_Reader hown hX.1 hP 0 rfl rfl 8 (by decide) (hts _ m_1_69) (fun _ h9 => h9) rfl d_Reader_takeNumber_80 ?_
              refine lv_iload_n hx hb d_Reader_takeNumber_83 rfl (lv_at hl 3 rfl) ?_
              refine lv_icmp_le (tgt := 95) hx hb d_Reader_takeNumber_84 (by decide) (fun c_84 => ?_) (fun c_84 => ?_)
              · skip
                have c_84 : (rNb s1 ≤ x) := c_84
                refine lv_iconst (v := 1) hx hb d_Reader_takeNumber_95 (by decide) ?_
                refine lv_goto (tgt := 100) hx hb d_Reader_takeNumber_96 (by decide) ?_
                exact hret H locs s1 true _ _ hP hD hS (pr2 (by first | (rw [hF]; ((try simp only [fNumL]) <;> simp only [fNumL, fNumE, if_neg c_14, c_24, if_neg c_67, if_pos c_84, fStop, if_true, if_false, Bool.false_eq_true, ↓reduceIte]); done) | (rw [hF]; ((try simp only [fNumL]) <;> simp only [fNumL, fNumE, if_neg c_14, c_24, if_neg c_67, if_pos c_84, fStop, if_true, if_false, Bool.false_eq_true, ↓reduceIte]); with_reducible rfl))) d_Reader_takeNumber_100
              · skip
                have c_84 : ¬ (rNb s1 ≤ x) := c_84
                refine lv_aload_n hx hb d_Reader_takeNumber_87 rfl (lv_at hl 2 rfl) ?_
                refine lv_iload_n hx hb d_Reader_takeNumber_88 rfl (lv_at hl 1 rfl) ?_
                refine hx_Vz (wr := []) (As := [.int (rPl st)]) (rest := []) hI (c_Reader_stop hT s1 (rPl st)) (cw_V (C := "HeadDesk$Reader") 1 hts m_2_87 m_2_89 ms_6 m_1_2 m_2_90 (by decide +kernel) ⟨by decide, by decide⟩) hX hA hP hD hS [0, 1, 2, 3, 4, 5, 6, 7] [] rfl rfl (by decide) (by decide) (by decide) (va_recv hX.1 hP (ci := 1) (q0 := 0) rfl rfl) rfl hl.1 rfl (Nat.le_of_ble_eq_true rfl) d_Reader_takeNumber_89 ⟨Nat.zero_le _, Nat.zero_le _⟩ (fun H locs hP hD hS => ?_)
                obtain ⟨s_89, e_89⟩ : ∃ z : RS, z = sSk s1 (rPl st) := ⟨_, rfl⟩
                have hP : va_P D vwCl (rdW ad cd T s_89) H := by rw [e_89]; exact hP
                have hD : va_D A (rdW ad cd T s_89) := by rw [e_89]; exact hD
                refine lv_if_eq (tgt := 99) hx hb d_Reader_takeNumber_92 (by decide) (fun c_92 => ?_) (fun c_92 => ?_)
                · skip
                  have c_92 : false = false := bI_0 c_92
                  refine lv_iconst (v := 0) hx hb d_Reader_takeNumber_99 (by decide) ?_
                  exact hret H locs s_89 false _ _ hP hD hS (pr2 (by first | (rw [hF]; ((try simp only [fNumL]) <;> simp only [fNumL, fNumE, if_neg c_14, c_24, if_neg c_67, if_neg c_84, ← e_89, fStop, if_true, if_false, Bool.false_eq_true, ↓reduceIte]); done) | (rw [hF]; ((try simp only [fNumL]) <;> simp only [fNumL, fNumE, if_neg c_14, c_24, if_neg c_67, if_neg c_84, ← e_89, fStop, if_true, if_false, Bool.false_eq_true, ↓reduceIte]); with_reducible rfl) | (rw [hF]; ((try simp only [fNumL]) <;> simp only [fNumL, fNumE, if_neg c_14, c_24, if_neg c_67, if_neg c_84, ← e_89, fStop, if_true, if_false, Bool.false_eq_true, ↓reduceIte]); rw [e_89]))) d_Reader_takeNumber_100
                · skip
                  exact absurd rfl c_92
            · skip
              have c_67 : (rPl s1 = rPl st) := c_67
              refine lv_aload_n hx hb d_Reader_takeNumber_70 rfl (lv_at hl 2 rfl) ?_
              refine lv_aload_n hx hb d_Reader_takeNumber_71 rfl (lv_at hl 2 rfl) ?_
              refine va_get (D := D) (ci := 1) (v := .int (rPl s1)) (C := "HeadDesk$Reader") (T := F_Reader) (N := 11) hx hb hts a_Reader hown hX.1 hP 0 rfl rfl 6 (by decide) (hts _ m_1_67) (fun _ h9 => h9) rfl d_Reader_takeNumber_72 ?_
              refine hx_Vz (wr := []) (As := [.int (rPl s1)]) (rest := []) hI (c_Reader_stop hT s1 (rPl s1)) (cw_V (C := "HeadDesk$Reader") 1 hts m_2_87 m_2_89 ms_6 m_1_2 m_2_90 (by decide +kernel) ⟨by decide, by decide⟩) hX hA hP hD hS [0, 1, 2, 3, 4, 5, 6, 7] [] rfl rfl (by decide) (by decide) (by decide) (va_recv hX.1 hP (ci := 1) (q0 := 0) rfl rfl) rfl hl.1 rfl (Nat.le_of_ble_eq_true rfl) d_Reader_takeNumber_75 ⟨Nat.zero_le _, Nat.zero_le _⟩ (fun H locs hP hD hS => ?_)
              obtain ⟨s_75, e_75⟩ : ∃ z : RS, z = sSk s1 (rPl s1) := ⟨_, rfl⟩
              have hP : va_P D vwCl (rdW ad cd T s_75) H := by rw [e_75]; exact hP
              have hD : va_D A (rdW ad cd T s_75) := by rw [e_75]; exact hD
              exact hret H locs s_75 false _ _ hP hD hS (pr2 (by first | (rw [hF]; ((try simp only [fNumL]) <;> simp only [fNumL, fNumE, if_neg c_14, c_24, if_pos c_67, ← e_75, fStop, if_true, if_false, Bool.false_eq_true, ↓reduceIte]); done) | (rw [hF]; ((try simp only [fNumL]) <;> simp only [fNumL, fNumE, if_neg c_14, c_24, if_pos c_67, ← e_75, fStop, if_true, if_false, Bool.false_eq_true, ↓reduceIte]); with_reducible rfl) | (rw [hF]; ((try simp only [fNumL]) <;> simp only [fNumL, fNumE, if_neg c_14, c_24, if_pos c_67, ← e_75, fStop, if_true, if_false, Bool.false_eq_true, ↓reduceIte]); rw [e_75]))) d_Reader_takeNumber_78
          · skip
            have c_24 : (isD (fMark T s1)) = true := bI_1 c_24
            refine lv_aload_n hx hb d_Reader_takeNumber_27 rfl (lv_at hl 2 rfl) ?_
            refine lv_aload_n hx hb d_Reader_takeNumber_28 rfl (lv_at hl 2 rfl) ?_
            refine va_get (D := D) (ci := 1) (v := .int (rNb s1)) (C := "HeadDesk$Reader") (T := F_Reader) (N := 11) hx hb hts a_Reader hown hX.1 hP 0 rfl rfl 8 (by decide) (hts _ m_1_69) (fun _ h9 => h9) rfl d_Reader_takeNumber_29 ?_
            refine lv_bipush (v := 10) hx hb d_Reader_takeNumber_32 (by decide) ?_
            refine lv_imul hx hb d_Reader_takeNumber_34 ?_
            refine lv_aload_n hx hb d_Reader_takeNumber_35 rfl (lv_at hl 2 rfl) ?_
            refine hx_Vi (wr := []) (As := []) (rest := [.int ((rNb s1) * 10), .ref (ad 0)]) hI (c_Reader_mark hT s1 ) (cw_V (C := "HeadDesk$Reader") 0 hts m_2_41 m_2_43 ms_5 m_1_2 m_2_44 (by decide +kernel) ⟨by decide, by decide⟩) hX hA hP hD hS [0, 1, 2, 3, 4, 5, 6, 7] [] rfl rfl (by decide) (by decide) (by decide) (va_recv hX.1 hP (ci := 1) (q0 := 0) rfl rfl) rfl hl.1 rfl (Nat.le_of_ble_eq_true rfl) d_Reader_takeNumber_36 ⟨Nat.zero_le _, Nat.zero_le _⟩ (fun H locs hP hD hS => ?_)
            have hP : va_P D vwCl (rdW ad cd T s1) H := hP
            have hD : va_D A (rdW ad cd T s1) := hD
            refine lv_bipush (v := 48) hx hb d_Reader_takeNumber_39 (by decide) ?_
            refine lv_isub hx hb d_Reader_takeNumber_41 ?_
            refine lv_iadd hx hb d_Reader_takeNumber_42 ?_
            refine va_put (D := D) (ci := 1) (v := .int (((rNb s1) * 10) + ((fMark T s1) - 48))) (ty := .int) (C := "HeadDesk$Reader") (T := F_Reader) (N := 11) hx hb hts a_Reader t_Reader k_Reader n_Reader hown hX.1 hP hD hS 0 rfl rfl 8 (by decide) (hts _ m_1_69) (fun _ h9 => h9) rfl (by decide +kernel) rfl rfl (Nat.le_of_ble_eq_true rfl) d_Reader_takeNumber_43 (fun H locs hP hD hS => ?_)
            have hP : va_P D vwCl (rdW ad cd T (sNb s1 (((rNb s1) * 10) + ((fMark T s1) - 48)))) H := hP
            have hD : va_D A (rdW ad cd T (sNb s1 (((rNb s1) * 10) + ((fMark T s1) - 48)))) := hD
            refine lv_aload_n hx hb d_Reader_takeNumber_46 rfl (lv_at hl 2 rfl) ?_
            refine lv_dup hx hb d_Reader_takeNumber_47 rfl ?_
            refine va_get (D := D) (ci := 1) (v := .int (rPl s1)) (C := "HeadDesk$Reader") (T := F_Reader) (N := 11) hx hb hts a_Reader hown hX.1 hP 0 rfl rfl 6 (by decide) (hts _ m_1_67) (fun _ h9 => h9) rfl d_Reader_takeNumber_48 ?_
            refine lv_iconst (v := 1) hx hb d_Reader_takeNumber_51 (by decide) ?_
            refine lv_iadd hx hb d_Reader_takeNumber_52 ?_
            refine va_put (D := D) (ci := 1) (v := .int ((rPl s1) + 1)) (ty := .int) (C := "HeadDesk$Reader") (T := F_Reader) (N := 11) hx hb hts a_Reader t_Reader k_Reader n_Reader hown hX.1 hP hD hS 0 rfl rfl 6 (by decide) (hts _ m_1_67) (fun _ h9 => h9) rfl (by decide +kernel) rfl rfl (Nat.le_of_ble_eq_true rfl) d_Reader_takeNumber_53 (fun H locs hP hD hS => ?_)
            have hP : va_P D vwCl (rdW ad cd T (sPl (sNb s1 (((rNb s1) * 10) + ((fMark T s1) - 48))) ((rPl s1) + 1))) H := hP
            have hD : va_D A (rdW ad cd T (sPl (sNb s1 (((rNb s1) * 10) + ((fMark T s1) - 48))) ((rPl s1) + 1))) := hD
            refine lv_iinc (v := nI (j + 1)) (lv' := [(3, .int (nI (j + 1))), (2, .int (rPl st)), (0, .ref (ad 0)), (1, .int x)]) hx hb d_Reader_takeNumber_56 hl (k := 0) rfl (by rw [nI_succ]; rfl) (by decide) rfl (fun ls hl => ?_)
            refine lv_goto (tgt := 12) hx hb d_Reader_takeNumber_59 (by decide) ?_
            exact ih (j + 1) (sPl (sNb s1 (((rNb s1) * 10) + ((fMark T s1) - 48))) ((rPl s1) + 1)) H locs ls (by omega)  (by first | (rw [hF]; ((try simp only [fNumL]) <;> simp only [fNumL, fNumE, if_neg c_14, c_24, fStop, if_true, if_false, Bool.false_eq_true, ↓reduceIte]); done) | (rw [hF]; ((try simp only [fNumL]) <;> simp only [fNumL, fNumE, if_neg c_14, c_24, fStop, if_true, if_false, Bool.false_eq_true, ↓reduceIte]); with_reducible rfl)) hP hD hS (lv_sub hl [0, 1, 2, 3] rfl)
    exact loop12 5 0 (sNb st 0) H locs ls (by omega) rfl hP hD hS (lv_sub hl [0, 1, 2, 3] rfl)
  rw [hH, hlo] at goal
  exact goal
set_option maxHeartbeats 4000000 in
set_option maxRecDepth 100000 in
theorem c_Reader_takeLetters (hT : T.2 ≤ 300) (st : RS) (x : Nat) (hx1 : x < 1000) : hx_Mz l D (tyH cd) adK adV tF (rdW ad cd T) y_Reader_takeLetters w_Reader_takeLetters (rmD 3) [.ref (ad 0), .int (nI x)] st ((fLet T st x).1) ((fLet T st x).2) := by
  refine hx_Mz.of (cc := b_Reader_takeLetters) (maxL := 3) (by decide) rfl (Nat.le_of_ble_eq_true rfl) ?_
  intro p e s m below meth c A Q ls hI hX hA hP hD hS hl hret
  obtain ⟨hx, hb, hml, hown, hts⟩ := id hI
  have hts : ∀ w ∈ aw, w.before ([.ref (ad 0), .int (nI x)] : List Value).toArray s = true := fun w h => hts w (List.mem_cons_of_mem _ h)
  have hown : s.vm.findClass "HeadDesk$Reader" = some m.cls := hown
  have hI : hx_In p s m ([.ref (ad 0), .int (nI x)] : List Value).toArray c b_Reader_takeLetters 3 "HeadDesk$Reader" aw := ⟨hx, hb, hml, hown, hts⟩
  have hP : va_P D vwCl (rdW ad cd T st) s.heap := hP
  obtain ⟨H, hH⟩ : ∃ H, H = s.heap := ⟨_, rfl⟩
  obtain ⟨locs, hlo⟩ : ∃ locs : List Loc, locs = [] := ⟨_, rfl⟩
  have hS : va_S A s.heap H locs := by rw [hH, hlo]; exact hS
  have hP : va_P D vwCl (rdW ad cd T st) H := by rw [hH]; exact hP
  have hl : lv_has ls 3 [(0, .ref (ad 0)), (1, .int (nI x))] := hl
  have goal : W p l e (rmD 3) s m ([.ref (ad 0), .int (nI x)] : List Value).toArray below meth c H locs 0 0 Q (F0 m 0 ls []) := by
    refine lv_aload_n hx hb d_Reader_takeLetters_0 rfl (lv_at hl 0 rfl) ?_
    refine lv_aload_n hx hb d_Reader_takeLetters_1 rfl (lv_at hl 0 rfl) ?_
    refine va_get (D := D) (ci := 1) (v := .int (rPl st)) (C := "HeadDesk$Reader") (T := F_Reader) (N := 11) hx hb hts a_Reader hown hX.1 hP 0 rfl rfl 6 (by decide) (hts _ m_1_67) (fun _ h9 => h9) rfl d_Reader_takeLetters_2 ?_
    refine va_put (D := D) (ci := 1) (v := .int (rPl st)) (ty := .int) (C := "HeadDesk$Reader") (T := F_Reader) (N := 11) hx hb hts a_Reader t_Reader k_Reader n_Reader hown hX.1 hP hD hS 0 rfl rfl 9 (by decide) (hts _ m_1_70) (fun _ h9 => h9) rfl (by decide +kernel) rfl rfl (Nat.le_of_ble_eq_true rfl) d_Reader_takeLetters_5 (fun H locs hP hD hS => ?_)
    have hP : va_P D vwCl (rdW ad cd T (sWs st (rPl st))) H := hP
    have hD : va_D A (rdW ad cd T (sWs st (rPl st))) := hD
    refine lv_iconst (v := 0) hx hb d_Reader_takeLetters_8 (by decide) ?_
    refine lv_istore_n (lv' := [(2, .int 0), (0, .ref (ad 0)), (1, .int (nI x))]) hx hb d_Reader_takeLetters_9 rfl hl (by decide) rfl (fun ls hl => ?_)
    have loop10 : ∀ (k : Nat) (j : Nat) (s1 : RS) (H : Heap) (locs : List Loc) (ls : Array Slot), j + k = x + 1 → fLet T st x = fLetE (fLetL T k s1) (nI x) → va_P D vwCl (rdW ad cd T s1) H → va_D A (rdW ad cd T s1) → va_S A s.heap H locs → lv_has ls 3 [(2, .int (nI j)), (0, .ref (ad 0)), (1, .int (nI x))] → W p l e (rmD 3) s m ([.ref (ad 0), .int (nI x)] : List Value).toArray below meth c H locs 0 0 Q (F0 m 10 ls []) := by
      intro k
      induction k with
      | zero =>
        intro j s1 H locs ls hj hF hP hD hS hl
        refine lv_iload_n hx hb d_Reader_takeLetters_10 rfl (lv_at hl 0 rfl) ?_
        refine lv_iload_n hx hb d_Reader_takeLetters_11 rfl (lv_at hl 2 rfl) ?_
        refine lv_icmp_gt (tgt := 41) hx hb d_Reader_takeLetters_12 (by decide) (fun c_12 => ?_) (fun c_12 => ?_)
        · skip
          have c_12 : (nI x < nI j) := c_12
          refine lv_aload_n hx hb d_Reader_takeLetters_41 rfl (lv_at hl 1 rfl) ?_
          refine lv_aload_n hx hb d_Reader_takeLetters_42 rfl (lv_at hl 1 rfl) ?_
          refine va_get (D := D) (ci := 1) (v := .int (rPl s1)) (C := "HeadDesk$Reader") (T := F_Reader) (N := 11) hx hb hts a_Reader hown hX.1 hP 0 rfl rfl 6 (by decide) (hts _ m_1_67) (fun _ h9 => h9) rfl d_Reader_takeLetters_43 ?_
          refine va_put (D := D) (ci := 1) (v := .int (rPl s1)) (ty := .int) (C := "HeadDesk$Reader") (T := F_Reader) (N := 11) hx hb hts a_Reader t_Reader k_Reader n_Reader hown hX.1 hP hD hS 0 rfl rfl 10 (by decide) (hts _ m_1_71) (fun _ h9 => h9) rfl (by decide +kernel) rfl rfl (Nat.le_of_ble_eq_true rfl) d_Reader_takeLetters_46 (fun H locs hP hD hS => ?_)
          have hP : va_P D vwCl (rdW ad cd T (sWe s1 (rPl s1))) H := hP
          have hD : va_D A (rdW ad cd T (sWe s1 (rPl s1))) := hD
          refine lv_aload_n hx hb d_Reader_takeLetters_49 rfl (lv_at hl 1 rfl) ?_
          refine va_get (D := D) (ci := 1) (v := .int (rPl s1)) (C := "HeadDesk$Reader") (T := F_Reader) (N := 11) hx hb hts a_Reader hown hX.1 hP 0 rfl rfl 10 (by decide) (hts _ m_1_71) (fun _ h9 => h9) rfl d_Reader_takeLetters_50 ?_
          refine lv_aload_n hx hb d_Reader_takeLetters_53 rfl (lv_at hl 1 rfl) ?_
          refine va_get (D := D) (ci := 1) (v := .int (rWs s1)) (C := "HeadDesk$Reader") (T := F_Reader) (N := 11) hx hb hts a_Reader hown hX.1 hP 0 rfl rfl 9 (by decide) (hts _ m_1_70) (fun _ h9 => h9) rfl d_Reader_takeLetters_54 ?_
          refine lv_icmp_ne (tgt := 69) hx hb d_Reader_takeLetters_57 (by decide) (fun c_57 => ?_) (fun c_57 => ?_)
          · skip
            have c_57 : ¬ (rPl s1 = rWs s1) := c_57
            refine lv_aload_n hx hb d_Reader_takeLetters_69 rfl (lv_at hl 1 rfl) ?_
            refine va_get (D := D) (ci := 1) (v := .int (rPl s1)) (C := "HeadDesk$Reader") (T := F_Reader) (N := 11) hx hb hts a_Reader hown hX.1 hP 0 rfl rfl 10 (by decide) (hts _ m_1_71) (fun _ h9 => h9) rfl d_Reader_takeLetters_70 ?_
            refine lv_aload_n hx hb d_Reader_takeLetters_73 rfl (lv_at hl 1 rfl) ?_
            refine va_get (D := D) (ci := 1) (v := .int (rWs s1)) (C := "HeadDesk$Reader") (T := F_Reader) (N := 11) hx hb hts a_Reader hown hX.1 hP 0 rfl rfl 9 (by decide) (hts _ m_1_70) (fun _ h9 => h9) rfl d_Reader_takeLetters_74 ?_
            refine lv_isub hx hb d_Reader_takeLetters_77 ?_
            refine lv_iload_n hx hb d_Reader_takeLetters_78 rfl (lv_at hl 2 rfl) ?_
            refine lv_icmp_le (tgt := 93) hx hb d_Reader_takeLetters_79 (by decide) (fun c_79 => ?_) (fun c_79 => ?_)
            · skip
              have c_79 : ((rPl s1) - (rWs s1) ≤ nI x) := c_79
              refine lv_iconst (v := 1) hx hb d_Reader_takeLetters_93 (by decide) ?_
              refine lv_goto (tgt := 98) hx hb d_Reader_takeLetters_94 (by decide) ?_
              exact hret H locs (sWe s1 (rPl s1)) true _ _ hP hD hS (pr2 (by first | (rw [hF]; ((try simp only [fLetL]) <;> simp only [fLetL, fLetE, if_pos c_12, if_neg c_57, if_pos c_79, fStop, if_true, if_false, Bool.false_eq_true, ↓reduceIte]); done) | (rw [hF]; ((try simp only [fLetL]) <;> simp only [fLetL, fLetE, if_pos c_12, if_neg c_57, if_pos c_79, fStop, if_true, if_false, Bool.false_eq_true, ↓reduceIte]); with_reducible rfl))) d_Reader_takeLetters_98
            · skip
              have c_79 : ¬ ((rPl s1) - (rWs s1) ≤ nI x) := c_79
              refine lv_aload_n hx hb d_Reader_takeLetters_82 rfl (lv_at hl 1 rfl) ?_
              refine lv_aload_n hx hb d_Reader_takeLetters_83 rfl (lv_at hl 1 rfl) ?_
              refine va_get (D := D) (ci := 1) (v := .int (rWs s1)) (C := "HeadDesk$Reader") (T := F_Reader) (N := 11) hx hb hts a_Reader hown hX.1 hP 0 rfl rfl 9 (by decide) (hts _ m_1_70) (fun _ h9 => h9) rfl d_Reader_takeLetters_84 ?_
              refine hx_Vz (wr := []) (As := [.int (rWs s1)]) (rest := []) hI (c_Reader_stop hT (sWe s1 (rPl s1)) (rWs s1)) (cw_V (C := "HeadDesk$Reader") 1 hts m_2_87 m_2_89 ms_6 m_1_2 m_2_90 (by decide +kernel) ⟨by decide, by decide⟩) hX hA hP hD hS [0, 1, 2, 3, 4, 5, 6, 7] [] rfl rfl (by decide) (by decide) (by decide) (va_recv hX.1 hP (ci := 1) (q0 := 0) rfl rfl) rfl hl.1 rfl (Nat.le_of_ble_eq_true rfl) d_Reader_takeLetters_87 ⟨Nat.zero_le _, Nat.zero_le _⟩ (fun H locs hP hD hS => ?_)
              obtain ⟨s_87, e_87⟩ : ∃ z : RS, z = sSk (sWe s1 (rPl s1)) (rWs s1) := ⟨_, rfl⟩
              have hP : va_P D vwCl (rdW ad cd T s_87) H := by rw [e_87]; exact hP
              have hD : va_D A (rdW ad cd T s_87) := by rw [e_87]; exact hD
              refine lv_if_eq (tgt := 97) hx hb d_Reader_takeLetters_90 (by decide) (fun c_90 => ?_) (fun c_90 => ?_)
              · skip
                have c_90 : false = false := bI_0 c_90
                refine lv_iconst (v := 0) hx hb d_Reader_takeLetters_97 (by decide) ?_
                exact hret H locs s_87 false _ _ hP hD hS (pr2 (by first | (rw [hF]; ((try simp only [fLetL]) <;> simp only [fLetL, fLetE, if_pos c_12, if_neg c_57, if_neg c_79, ← e_87, fStop, if_true, if_false, Bool.false_eq_true, ↓reduceIte]); done) | (rw [hF]; ((try simp only [fLetL]) <;> simp only [fLetL, fLetE, if_pos c_12, if_neg c_57, if_neg c_79, ← e_87, fStop, if_true, if_false, Bool.false_eq_true, ↓reduceIte]); with_reducible rfl) | (rw [hF]; ((try simp only [fLetL]) <;> simp only [fLetL, fLetE, if_pos c_12, if_neg c_57, if_neg c_79, ← e_87, fStop, if_true, if_false, Bool.false_eq_true, ↓reduceIte]); rw [e_87]))) d_Reader_takeLetters_98
              · skip
                exact absurd rfl c_90
          · skip
            have c_57 : (rPl s1 = rWs s1) := c_57
            refine lv_aload_n hx hb d_Reader_takeLetters_60 rfl (lv_at hl 1 rfl) ?_
            refine lv_aload_n hx hb d_Reader_takeLetters_61 rfl (lv_at hl 1 rfl) ?_
            refine va_get (D := D) (ci := 1) (v := .int (rPl s1)) (C := "HeadDesk$Reader") (T := F_Reader) (N := 11) hx hb hts a_Reader hown hX.1 hP 0 rfl rfl 6 (by decide) (hts _ m_1_67) (fun _ h9 => h9) rfl d_Reader_takeLetters_62 ?_
            refine hx_Vz (wr := []) (As := [.int (rPl s1)]) (rest := []) hI (c_Reader_stop hT (sWe s1 (rPl s1)) (rPl s1)) (cw_V (C := "HeadDesk$Reader") 1 hts m_2_87 m_2_89 ms_6 m_1_2 m_2_90 (by decide +kernel) ⟨by decide, by decide⟩) hX hA hP hD hS [0, 1, 2, 3, 4, 5, 6, 7] [] rfl rfl (by decide) (by decide) (by decide) (va_recv hX.1 hP (ci := 1) (q0 := 0) rfl rfl) rfl hl.1 rfl (Nat.le_of_ble_eq_true rfl) d_Reader_takeLetters_65 ⟨Nat.zero_le _, Nat.zero_le _⟩ (fun H locs hP hD hS => ?_)
            obtain ⟨s_65, e_65⟩ : ∃ z : RS, z = sSk (sWe s1 (rPl s1)) (rPl s1) := ⟨_, rfl⟩
            have hP : va_P D vwCl (rdW ad cd T s_65) H := by rw [e_65]; exact hP
            have hD : va_D A (rdW ad cd T s_65) := by rw [e_65]; exact hD
            exact hret H locs s_65 false _ _ hP hD hS (pr2 (by first | (rw [hF]; ((try simp only [fLetL]) <;> simp only [fLetL, fLetE, if_pos c_12, if_pos c_57, ← e_65, fStop, if_true, if_false, Bool.false_eq_true, ↓reduceIte]); done) | (rw [hF]; ((try simp only [fLetL]) <;> simp only [fLetL, fLetE, if_pos c_12, if_pos c_57, ← e_65, fStop, if_true, if_false, Bool.false_eq_true, ↓reduceIte]); with_reducible rfl) | (rw [hF]; ((try simp only [fLetL]) <;> simp only [fLetL, fLetE, if_pos c_12, if_pos c_57, ← e_65, fStop, if_true, if_false, Bool.false_eq_true, ↓reduceIte]); rw [e_65]))) d_Reader_takeLetters_68
        · skip
          exact absurd (nI_tyes (N := x) rfl (by omega) (by omega)) c_12
      | succ k ih =>
        intro j s1 H locs ls hj hF hP hD hS hl
        refine lv_iload_n hx hb d_Reader_takeLetters_10 rfl (lv_at hl 0 rfl) ?_
        refine lv_iload_n hx hb d_Reader_takeLetters_11 rfl (lv_at hl 2 rfl) ?_
        refine lv_icmp_gt (tgt := 41) hx hb d_Reader_takeLetters_12 (by decide) (fun c_12 => ?_) (fun c_12 => ?_)
        · skip
          exact absurd c_12 (nI_tno (N := x) rfl (by omega) (by omega))
        · skip
          have c_12 : ¬ (nI x < nI j) := c_12
          refine lv_aload_n hx hb d_Reader_takeLetters_15 rfl (lv_at hl 1 rfl) ?_
          refine hx_Vi (wr := []) (As := []) (rest := []) hI (c_Reader_mark hT s1 ) (cw_V (C := "HeadDesk$Reader") 0 hts m_2_41 m_2_43 ms_5 m_1_2 m_2_44 (by decide +kernel) ⟨by decide, by decide⟩) hX hA hP hD hS [0, 1, 2, 3, 4, 5, 6, 7] [] rfl rfl (by decide) (by decide) (by decide) (va_recv hX.1 hP (ci := 1) (q0 := 0) rfl rfl) rfl hl.1 rfl (Nat.le_of_ble_eq_true rfl) d_Reader_takeLetters_16 ⟨Nat.zero_le _, Nat.zero_le _⟩ (fun H locs hP hD hS => ?_)
          have hP : va_P D vwCl (rdW ad cd T s1) H := hP
          have hD : va_D A (rdW ad cd T s1) := hD
          refine hx_Sz (wr := [(ad 0, .inr (1, [.ref (ad 1), .ref (ad 3), .ref (ad 4), .ref (ad 5), .int (rNm s1), .int (rKd s1), .int (rPl s1), .int (rSk s1), .int (rNb s1), .int (rWs s1), .int (rWe s1)])), (ad 1, .inr (2, [.ref (ad 2), .int (T.2)])), (ad 2, .inl (cd 0, 300, .inl T.1)), (ad 3, .inl (cd 1, 100, .inl (rNs s1))), (ad 4, .inl (cd 2, 100, .inl (rNe s1))), (ad 5, .inr (0, [.ref (ad 6), .ref (ad 7)])), (ad 6, .inl (cd 3, 18, .inl (rVs s1))), (ad 7, .inl (cd 4, 8, .inl (rVr s1)))]) (As := [.int (fMark T s1)]) (rest := []) hI (c_Reader_isLetter (fMark T s1)) (cw_S 1 hts m_2_120 m_2_121 m_1_2 m_2_122 (by decide +kernel) ⟨by decide, by decide⟩) hX hA hP hD hS [] [0, 1, 2, 3, 4, 5, 6, 7] rfl rfl (by decide) (by decide) (by decide) rfl hl.1 rfl (Nat.le_of_ble_eq_true rfl) d_Reader_takeLetters_19 ⟨Nat.zero_le _, Nat.zero_le _⟩ (fun H locs hP hD hS => ?_)
          have hP : va_P D vwCl (rdW ad cd T s1) H := hP.sub [0, 1, 2, 3, 4, 5, 6, 7] rfl
          have hD : va_D A (rdW ad cd T s1) := hD.sub [0, 1, 2, 3, 4, 5, 6, 7] (by decide) rfl
          refine lv_if_eq (tgt := 41) hx hb d_Reader_takeLetters_22 (by decide) (fun c_22 => ?_) (fun c_22 => ?_)
          · skip
            have c_22 : (isL (fMark T s1)) = false := bI_0 c_22
            refine lv_aload_n hx hb d_Reader_takeLetters_41 rfl (lv_at hl 1 rfl) ?_
            refine lv_aload_n hx hb d_Reader_takeLetters_42 rfl (lv_at hl 1 rfl) ?_
            refine va_get (D := D) (ci := 1) (v := .int (rPl s1)) (C := "HeadDesk$Reader") (T := F_Reader) (N := 11) hx hb hts a_Reader hown hX.1 hP 0 rfl rfl 6 (by decide) (hts _ m_1_67) (fun _ h9 => h9) rfl d_Reader_takeLetters_43 ?_
            refine va_put (D := D) (ci := 1) (v := .int (rPl s1)) (ty := .int) (C := "HeadDesk$Reader") (T := F_Reader) (N := 11) hx hb hts a_Reader t_Reader k_Reader n_Reader hown hX.1 hP hD hS 0 rfl rfl 10 (by decide) (hts _ m_1_71) (fun _ h9 => h9) rfl (by decide +kernel) rfl rfl (Nat.le_of_ble_eq_true rfl) d_Reader_takeLetters_46 (fun H locs hP hD hS => ?_)
            have hP : va_P D vwCl (rdW ad cd T (sWe s1 (rPl s1))) H := hP
            have hD : va_D A (rdW ad cd T (sWe s1 (rPl s1))) := hD
            refine lv_aload_n hx hb d_Reader_takeLetters_49 rfl (lv_at hl 1 rfl) ?_
            refine va_get (D := D) (ci := 1) (v := .int (rPl s1)) (C := "HeadDesk$Reader") (T := F_Reader) (N := 11) hx hb hts a_Reader hown hX.1 hP 0 rfl rfl 10 (by decide) (hts _ m_1_71) (fun _ h9 => h9) rfl d_Reader_takeLetters_50 ?_
            refine lv_aload_n hx hb d_Reader_takeLetters_53 rfl (lv_at hl 1 rfl) ?_
            refine va_get (D := D) (ci := 1) (v := .int (rWs s1)) (C := "HeadDesk$Reader") (T := F_Reader) (N := 11) hx hb hts a_Reader hown hX.1 hP 0 rfl rfl 9 (by decide) (hts _ m_1_70) (fun _ h9 => h9) rfl d_Reader_takeLetters_54 ?_
            refine lv_icmp_ne (tgt := 69) hx hb d_Reader_takeLetters_57 (by decide) (fun c_57 => ?_) (fun c_57 => ?_)
            · skip
              have c_57 : ¬ (rPl s1 = rWs s1) := c_57
              refine lv_aload_n hx hb d_Reader_takeLetters_69 rfl (lv_at hl 1 rfl) ?_
              refine va_get (D := D) (ci := 1) (v := .int (rPl s1)) (C := "HeadDesk$Reader") (T := F_Reader) (N := 11) hx hb hts a_Reader hown hX.1 hP 0 rfl rfl 10 (by decide) (hts _ m_1_71) (fun _ h9 => h9) rfl d_Reader_takeLetters_70 ?_
              refine lv_aload_n hx hb d_Reader_takeLetters_73 rfl (lv_at hl 1 rfl) ?_
              refine va_get (D := D) (ci := 1) (v := .int (rWs s1)) (C := "HeadDesk$Reader") (T := F_Reader) (N := 11) hx hb hts a_Reader hown hX.1 hP 0 rfl rfl 9 (by decide) (hts _ m_1_70) (fun _ h9 => h9) rfl d_Reader_takeLetters_74 ?_
              refine lv_isub hx hb d_Reader_takeLetters_77 ?_
              refine lv_iload_n hx hb d_Reader_takeLetters_78 rfl (lv_at hl 2 rfl) ?_
              refine lv_icmp_le (tgt := 93) hx hb d_Reader_takeLetters_79 (by decide) (fun c_79 => ?_) (fun c_79 => ?_)
              · skip
                have c_79 : ((rPl s1) - (rWs s1) ≤ nI x) := c_79
                refine lv_iconst (v := 1) hx hb d_Reader_takeLetters_93 (by decide) ?_
                refine lv_goto (tgt := 98) hx hb d_Reader_takeLetters_94 (by decide) ?_
                exact hret H locs (sWe s1 (rPl s1)) true _ _ hP hD hS (pr2 (by first | (rw [hF]; ((try simp only [fLetL]) <;> simp only [fLetL, fLetE, if_neg c_12, c_22, if_neg c_57, if_pos c_79, fStop, if_true, if_false, Bool.false_eq_true, ↓reduceIte]); done) | (rw [hF]; ((try simp only [fLetL]) <;> simp only [fLetL, fLetE, if_neg c_12, c_22, if_neg c_57, if_pos c_79, fStop, if_true, if_false, Bool.false_eq_true, ↓reduceIte]); with_reducible rfl))) d_Reader_takeLetters_98
              · skip
                have c_79 : ¬ ((rPl s1) - (rWs s1) ≤ nI x) := c_79
                refine lv_aload_n hx hb d_Reader_takeLetters_82 rfl (lv_at hl 1 rfl) ?_
                refine lv_aload_n hx hb d_Reader_takeLetters_83 rfl (lv_at hl 1 rfl) ?_
                refine va_get (D := D) (ci := 1) (v := .int (rWs s1)) (C := "HeadDesk$Reader") (T := F_Reader) (N := 11) hx hb hts a_Reader hown hX.1 hP 0 rfl rfl 9 (by decide) (hts _ m_1_70) (fun _ h9 => h9) rfl d_Reader_takeLetters_84 ?_
                refine hx_Vz (wr := []) (As := [.int (rWs s1)]) (rest := []) hI (c_Reader_stop hT (sWe s1 (rPl s1)) (rWs s1)) (cw_V (C := "HeadDesk$Reader") 1 hts m_2_87 m_2_89 ms_6 m_1_2 m_2_90 (by decide +kernel) ⟨by decide, by decide⟩) hX hA hP hD hS [0, 1, 2, 3, 4, 5, 6, 7] [] rfl rfl (by decide) (by decide) (by decide) (va_recv hX.1 hP (ci := 1) (q0 := 0) rfl rfl) rfl hl.1 rfl (Nat.le_of_ble_eq_true rfl) d_Reader_takeLetters_87 ⟨Nat.zero_le _, Nat.zero_le _⟩ (fun H locs hP hD hS => ?_)
                obtain ⟨s_87, e_87⟩ : ∃ z : RS, z = sSk (sWe s1 (rPl s1)) (rWs s1) := ⟨_, rfl⟩
                have hP : va_P D vwCl (rdW ad cd T s_87) H := by rw [e_87]; exact hP
                have hD : va_D A (rdW ad cd T s_87) := by rw [e_87]; exact hD
                refine lv_if_eq (tgt := 97) hx hb d_Reader_takeLetters_90 (by decide) (fun c_90 => ?_) (fun c_90 => ?_)
                · skip
                  have c_90 : false = false := bI_0 c_90
                  refine lv_iconst (v := 0) hx hb d_Reader_takeLetters_97 (by decide) ?_
                  exact hret H locs s_87 false _ _ hP hD hS (pr2 (by first | (rw [hF]; ((try simp only [fLetL]) <;> simp only [fLetL, fLetE, if_neg c_12, c_22, if_neg c_57, if_neg c_79, ← e_87, fStop, if_true, if_false, Bool.false_eq_true, ↓reduceIte]); done) | (rw [hF]; ((try simp only [fLetL]) <;> simp only [fLetL, fLetE, if_neg c_12, c_22, if_neg c_57, if_neg c_79, ← e_87, fStop, if_true, if_false, Bool.false_eq_true, ↓reduceIte]); with_reducible rfl) | (rw [hF]; ((try simp only [fLetL]) <;> simp only [fLetL, fLetE, if_neg c_12, c_22, if_neg c_57, if_neg c_79, ← e_87, fStop, if_true, if_false, Bool.false_eq_true, ↓reduceIte]); rw [e_87]))) d_Reader_takeLetters_98
                · skip
                  exact absurd rfl c_90
            · skip
              have c_57 : (rPl s1 = rWs s1) := c_57
              refine lv_aload_n hx hb d_Reader_takeLetters_60 rfl (lv_at hl 1 rfl) ?_
              refine lv_aload_n hx hb d_Reader_takeLetters_61 rfl (lv_at hl 1 rfl) ?_
              refine va_get (D := D) (ci := 1) (v := .int (rPl s1)) (C := "HeadDesk$Reader") (T := F_Reader) (N := 11) hx hb hts a_Reader hown hX.1 hP 0 rfl rfl 6 (by decide) (hts _ m_1_67) (fun _ h9 => h9) rfl d_Reader_takeLetters_62 ?_
              refine hx_Vz (wr := []) (As := [.int (rPl s1)]) (rest := []) hI (c_Reader_stop hT (sWe s1 (rPl s1)) (rPl s1)) (cw_V (C := "HeadDesk$Reader") 1 hts m_2_87 m_2_89 ms_6 m_1_2 m_2_90 (by decide +kernel) ⟨by decide, by decide⟩) hX hA hP hD hS [0, 1, 2, 3, 4, 5, 6, 7] [] rfl rfl (by decide) (by decide) (by decide) (va_recv hX.1 hP (ci := 1) (q0 := 0) rfl rfl) rfl hl.1 rfl (Nat.le_of_ble_eq_true rfl) d_Reader_takeLetters_65 ⟨Nat.zero_le _, Nat.zero_le _⟩ (fun H locs hP hD hS => ?_)
              obtain ⟨s_65, e_65⟩ : ∃ z : RS, z = sSk (sWe s1 (rPl s1)) (rPl s1) := ⟨_, rfl⟩
              have hP : va_P D vwCl (rdW ad cd T s_65) H := by rw [e_65]; exact hP
              have hD : va_D A (rdW ad cd T s_65) := by rw [e_65]; exact hD
              exact hret H locs s_65 false _ _ hP hD hS (pr2 (by first | (rw [hF]; ((try simp only [fLetL]) <;> simp only [fLetL, fLetE, if_neg c_12, c_22, if_pos c_57, ← e_65, fStop, if_true, if_false, Bool.false_eq_true, ↓reduceIte]); done) | (rw [hF]; ((try simp only [fLetL]) <;> simp only [fLetL, fLetE, if_neg c_12, c_22, if_pos c_57, ← e_65, fStop, if_true, if_false, Bool.false_eq_true, ↓reduceIte]); with_reducible rfl) | (rw [hF]; ((try simp only [fLetL]) <;> simp only [fLetL, fLetE, if_neg c_12, c_22, if_pos c_57, ← e_65, fStop, if_true, if_false, Bool.false_eq_true, ↓reduceIte]); rw [e_65]))) d_Reader_takeLetters_68
          · skip
            have c_22 : (isL (fMark T s1)) = true := bI_1 c_22
            refine lv_aload_n hx hb d_Reader_takeLetters_25 rfl (lv_at hl 1 rfl) ?_
            refine lv_dup hx hb d_Reader_takeLetters_26 rfl ?_
            refine va_get (D := D) (ci := 1) (v := .int (rPl s1)) (C := "HeadDesk$Reader") (T := F_Reader) (N := 11) hx hb hts a_Reader hown hX.1 hP 0 rfl rfl 6 (by decide) (hts _ m_1_67) (fun _ h9 => h9) rfl d_Reader_takeLetters_27 ?_
            refine lv_iconst (v := 1) hx hb d_Reader_takeLetters_30 (by decide) ?_
            refine lv_iadd hx hb d_Reader_takeLetters_31 ?_
            refine va_put (D := D) (ci := 1) (v := .int ((rPl s1) + 1)) (ty := .int) (C := "HeadDesk$Reader") (T := F_Reader) (N := 11) hx hb hts a_Reader t_Reader k_Reader n_Reader hown hX.1 hP hD hS 0 rfl rfl 6 (by decide) (hts _ m_1_67) (fun _ h9 => h9) rfl (by decide +kernel) rfl rfl (Nat.le_of_ble_eq_true rfl) d_Reader_takeLetters_32 (fun H locs hP hD hS => ?_)
            have hP : va_P D vwCl (rdW ad cd T (sPl s1 ((rPl s1) + 1))) H := hP
            have hD : va_D A (rdW ad cd T (sPl s1 ((rPl s1) + 1))) := hD
            refine lv_iinc (v := nI (j + 1)) (lv' := [(2, .int (nI (j + 1))), (0, .ref (ad 0)), (1, .int (nI x))]) hx hb d_Reader_takeLetters_35 hl (k := 0) rfl (by rw [nI_succ]; rfl) (by decide) rfl (fun ls hl => ?_)
            refine lv_goto (tgt := 10) hx hb d_Reader_takeLetters_38 (by decide) ?_
            exact ih (j + 1) (sPl s1 ((rPl s1) + 1)) H locs ls (by omega)  (by first | (rw [hF]; ((try simp only [fLetL]) <;> simp only [fLetL, fLetE, if_neg c_12, c_22, fStop, if_true, if_false, Bool.false_eq_true, ↓reduceIte]); done) | (rw [hF]; ((try simp only [fLetL]) <;> simp only [fLetL, fLetE, if_neg c_12, c_22, fStop, if_true, if_false, Bool.false_eq_true, ↓reduceIte]); with_reducible rfl)) hP hD hS (lv_sub hl [0, 1, 2] rfl)
    exact loop10 (x + 1) 0 (sWs st (rPl st)) H locs ls (by omega) rfl hP hD hS (lv_sub hl [0, 1, 2] rfl)
  rw [hH, hlo] at goal
  exact goal
set_option maxHeartbeats 4000000 in
set_option maxRecDepth 100000 in
theorem c_Reader_readAnything (hT : T.2 ≤ 300) (st : RS)  : hx_Mz l D (tyH cd) adK adV tF (rdW ad cd T) y_Reader_readAnything w_Reader_readAnything (rmD 3) [.ref (ad 0)] st true (fAnyL T 300 st) := by
  refine hx_Mz.of (cc := b_Reader_readAnything) (maxL := 2) (by decide) rfl (Nat.le_of_ble_eq_true rfl) ?_
  intro p e s m below meth c A Q ls hI hX hA hP hD hS hl hret
  obtain ⟨hx, hb, hml, hown, hts⟩ := id hI
  have hts : ∀ w ∈ aw, w.before ([.ref (ad 0)] : List Value).toArray s = true := fun w h => hts w (List.mem_cons_of_mem _ h)
  have hown : s.vm.findClass "HeadDesk$Reader" = some m.cls := hown
  have hI : hx_In p s m ([.ref (ad 0)] : List Value).toArray c b_Reader_readAnything 2 "HeadDesk$Reader" aw := ⟨hx, hb, hml, hown, hts⟩
  have hP : va_P D vwCl (rdW ad cd T st) s.heap := hP
  obtain ⟨H, hH⟩ : ∃ H, H = s.heap := ⟨_, rfl⟩
  obtain ⟨locs, hlo⟩ : ∃ locs : List Loc, locs = [] := ⟨_, rfl⟩
  have hS : va_S A s.heap H locs := by rw [hH, hlo]; exact hS
  have hP : va_P D vwCl (rdW ad cd T st) H := by rw [hH]; exact hP
  have hl : lv_has ls 2 [(0, .ref (ad 0))] := hl
  have goal : W p l e (rmD 3) s m ([.ref (ad 0)] : List Value).toArray below meth c H locs 0 0 Q (F0 m 0 ls []) := by
    refine lv_iconst (v := 0) hx hb d_Reader_readAnything_0 (by decide) ?_
    refine lv_istore_n (lv' := [(1, .int 0), (0, .ref (ad 0))]) hx hb d_Reader_readAnything_1 rfl hl (by decide) rfl (fun ls hl => ?_)
    have loop2 : ∀ (k : Nat) (j : Nat) (s1 : RS) (H : Heap) (locs : List Loc) (ls : Array Slot), j + k = 300 → fAnyL T 300 st = fAnyL T k s1 → va_P D vwCl (rdW ad cd T s1) H → va_D A (rdW ad cd T s1) → va_S A s.heap H locs → lv_has ls 2 [(1, .int (nI j)), (0, .ref (ad 0))] → W p l e (rmD 3) s m ([.ref (ad 0)] : List Value).toArray below meth c H locs 0 0 Q (F0 m 2 ls []) := by
      intro k
      induction k with
      | zero =>
        intro j s1 H locs ls hj hF hP hD hS hl
        refine lv_iload_n hx hb d_Reader_readAnything_2 rfl (lv_at hl 0 rfl) ?_
        refine lv_sipush (v := 300) hx hb d_Reader_readAnything_3 (by decide) ?_
        refine lv_icmp_ge (tgt := 44) hx hb d_Reader_readAnything_6 (by decide) (fun c_6 => ?_) (fun c_6 => ?_)
        · skip
          have c_6 : (300 ≤ nI j) := c_6
          refine lv_iconst (v := 1) hx hb d_Reader_readAnything_44 (by decide) ?_
          exact hret H locs s1 true _ _ hP hD hS ⟨rfl, by first | (rw [hF]; ((try simp only [fAnyL]) <;> simp only [fAnyL, if_pos c_6, fStop, if_true, if_false, Bool.false_eq_true, ↓reduceIte]); done) | (rw [hF]; ((try simp only [fAnyL]) <;> simp only [fAnyL, if_pos c_6, fStop, if_true, if_false, Bool.false_eq_true, ↓reduceIte]); with_reducible rfl)⟩ d_Reader_readAnything_45
        · skip
          exact absurd (nI_gyes (N := 300) rfl (by omega) (by omega)) c_6
      | succ k ih =>
        intro j s1 H locs ls hj hF hP hD hS hl
        refine lv_iload_n hx hb d_Reader_readAnything_2 rfl (lv_at hl 0 rfl) ?_
        refine lv_sipush (v := 300) hx hb d_Reader_readAnything_3 (by decide) ?_
        refine lv_icmp_ge (tgt := 44) hx hb d_Reader_readAnything_6 (by decide) (fun c_6 => ?_) (fun c_6 => ?_)
        · skip
          exact absurd c_6 (nI_gno (N := 300) rfl (by omega) (by omega))
        · skip
          have c_6 : ¬ (300 ≤ nI j) := c_6
          refine lv_aload_n hx hb d_Reader_readAnything_9 rfl (lv_at hl 1 rfl) ?_
          refine hx_Vi (wr := []) (As := []) (rest := []) hI (c_Reader_mark hT s1 ) (cw_V (C := "HeadDesk$Reader") 0 hts m_2_41 m_2_43 ms_5 m_1_2 m_2_44 (by decide +kernel) ⟨by decide, by decide⟩) hX hA hP hD hS [0, 1, 2, 3, 4, 5, 6, 7] [] rfl rfl (by decide) (by decide) (by decide) (va_recv hX.1 hP (ci := 1) (q0 := 0) rfl rfl) rfl hl.1 rfl (Nat.le_of_ble_eq_true rfl) d_Reader_readAnything_10 ⟨Nat.zero_le _, Nat.zero_le _⟩ (fun H locs hP hD hS => ?_)
          have hP : va_P D vwCl (rdW ad cd T s1) H := hP
          have hD : va_D A (rdW ad cd T s1) := hD
          refine lv_iconst (v := (-1)) hx hb d_Reader_readAnything_13 (by decide) ?_
          refine lv_icmp_eq (tgt := 26) hx hb d_Reader_readAnything_14 (by decide) (fun c_14 => ?_) (fun c_14 => ?_)
          · skip
            have c_14 : (fMark T s1 = (-1)) := c_14
            refine lv_iconst (v := 1) hx hb d_Reader_readAnything_26 (by decide) ?_
            exact hret H locs s1 true _ _ hP hD hS ⟨rfl, by first | (rw [hF]; ((try simp only [fAnyL]) <;> simp only [fAnyL, if_neg c_6, if_pos c_14, fStop, if_true, if_false, Bool.false_eq_true, ↓reduceIte]); done) | (rw [hF]; ((try simp only [fAnyL]) <;> simp only [fAnyL, if_neg c_6, if_pos c_14, fStop, if_true, if_false, Bool.false_eq_true, ↓reduceIte]); with_reducible rfl)⟩ d_Reader_readAnything_27
          · skip
            have c_14 : ¬ (fMark T s1 = (-1)) := c_14
            refine lv_aload_n hx hb d_Reader_readAnything_17 rfl (lv_at hl 1 rfl) ?_
            refine hx_Vi (wr := []) (As := []) (rest := []) hI (c_Reader_mark hT s1 ) (cw_V (C := "HeadDesk$Reader") 0 hts m_2_41 m_2_43 ms_5 m_1_2 m_2_44 (by decide +kernel) ⟨by decide, by decide⟩) hX hA hP hD hS [0, 1, 2, 3, 4, 5, 6, 7] [] rfl rfl (by decide) (by decide) (by decide) (va_recv hX.1 hP (ci := 1) (q0 := 0) rfl rfl) rfl hl.1 rfl (Nat.le_of_ble_eq_true rfl) d_Reader_readAnything_18 ⟨Nat.zero_le _, Nat.zero_le _⟩ (fun H locs hP hD hS => ?_)
            have hP : va_P D vwCl (rdW ad cd T s1) H := hP
            have hD : va_D A (rdW ad cd T s1) := hD
            refine lv_bipush (v := 10) hx hb d_Reader_readAnything_21 (by decide) ?_
            refine lv_icmp_ne (tgt := 28) hx hb d_Reader_readAnything_23 (by decide) (fun c_23 => ?_) (fun c_23 => ?_)
            · skip
              have c_23 : ¬ (fMark T s1 = 10) := c_23
              refine lv_aload_n hx hb d_Reader_readAnything_28 rfl (lv_at hl 1 rfl) ?_
              refine lv_dup hx hb d_Reader_readAnything_29 rfl ?_
              refine va_get (D := D) (ci := 1) (v := .int (rPl s1)) (C := "HeadDesk$Reader") (T := F_Reader) (N := 11) hx hb hts a_Reader hown hX.1 hP 0 rfl rfl 6 (by decide) (hts _ m_1_67) (fun _ h9 => h9) rfl d_Reader_readAnything_30 ?_
              refine lv_iconst (v := 1) hx hb d_Reader_readAnything_33 (by decide) ?_
              refine lv_iadd hx hb d_Reader_readAnything_34 ?_
              refine va_put (D := D) (ci := 1) (v := .int ((rPl s1) + 1)) (ty := .int) (C := "HeadDesk$Reader") (T := F_Reader) (N := 11) hx hb hts a_Reader t_Reader k_Reader n_Reader hown hX.1 hP hD hS 0 rfl rfl 6 (by decide) (hts _ m_1_67) (fun _ h9 => h9) rfl (by decide +kernel) rfl rfl (Nat.le_of_ble_eq_true rfl) d_Reader_readAnything_35 (fun H locs hP hD hS => ?_)
              have hP : va_P D vwCl (rdW ad cd T (sPl s1 ((rPl s1) + 1))) H := hP
              have hD : va_D A (rdW ad cd T (sPl s1 ((rPl s1) + 1))) := hD
              refine lv_iinc (v := nI (j + 1)) (lv' := [(1, .int (nI (j + 1))), (0, .ref (ad 0))]) hx hb d_Reader_readAnything_38 hl (k := 0) rfl (by rw [nI_succ]; rfl) (by decide) rfl (fun ls hl => ?_)
              refine lv_goto (tgt := 2) hx hb d_Reader_readAnything_41 (by decide) ?_
              exact ih (j + 1) (sPl s1 ((rPl s1) + 1)) H locs ls (by omega)  (by first | (rw [hF]; ((try simp only [fAnyL]) <;> simp only [fAnyL, if_neg c_6, if_neg c_14, if_neg c_23, fStop, if_true, if_false, Bool.false_eq_true, ↓reduceIte]); done) | (rw [hF]; ((try simp only [fAnyL]) <;> simp only [fAnyL, if_neg c_6, if_neg c_14, if_neg c_23, fStop, if_true, if_false, Bool.false_eq_true, ↓reduceIte]); with_reducible rfl)) hP hD hS (lv_sub hl [0, 1] rfl)
            · skip
              have c_23 : (fMark T s1 = 10) := c_23
              refine lv_iconst (v := 1) hx hb d_Reader_readAnything_26 (by decide) ?_
              exact hret H locs s1 true _ _ hP hD hS ⟨rfl, by first | (rw [hF]; ((try simp only [fAnyL]) <;> simp only [fAnyL, if_neg c_6, if_neg c_14, if_pos c_23, fStop, if_true, if_false, Bool.false_eq_true, ↓reduceIte]); done) | (rw [hF]; ((try simp only [fAnyL]) <;> simp only [fAnyL, if_neg c_6, if_neg c_14, if_pos c_23, fStop, if_true, if_false, Bool.false_eq_true, ↓reduceIte]); with_reducible rfl)⟩ d_Reader_readAnything_27
    exact loop2 300 0 st H locs ls (by omega) rfl hP hD hS (lv_sub hl [0, 1] rfl)
  rw [hH, hlo] at goal
  exact goal
