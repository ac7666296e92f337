variable {l : Launch} {D : va_G} {ad : Nat → Nat} {cd : Nat → ClassId} {adK adV : Nat → Nat} {tF : Nat} {T : TX} {tys : List (ClassId × FieldType)}

set_option maxHeartbeats 4000000 in
set_option maxRecDepth 100000 in
theorem c_Reader_readKeys (hT : T.2 ≤ 300) (st : RS)  : hx_Mz l D (tyH cd) adK adV tF (rdW ad cd T) y_Reader_readKeys w_Reader_readKeys (rmD 4) [.ref (ad 0)] st ((fKeyL T 8 st).1) ((fKeyL T 8 st).2) := by
  refine hx_Mz.of (cc := b_Reader_readKeys) (maxL := 3) (by decide) rfl (Nat.le_of_ble_eq_true rfl) ?_
  intro p e s m below meth c A Q ls hI hX hA hP hD hS hl hret
  obtain ⟨hx, hb, hml, hown, hts⟩ := id hI
  have hts : ∀ w ∈ aw, w.before ([.ref (ad 0)] : List Value).toArray s = true := fun w h => hts w (List.mem_cons_of_mem _ h)
  have hown : s.vm.findClass "HeadDesk$Reader" = some m.cls := hown
  have hI : hx_In p s m ([.ref (ad 0)] : List Value).toArray c b_Reader_readKeys 3 "HeadDesk$Reader" aw := ⟨hx, hb, hml, hown, hts⟩
  have hP : va_P D vwCl (rdW ad cd T st) s.heap := hP
  obtain ⟨H, hH⟩ : ∃ H, H = s.heap := ⟨_, rfl⟩
  obtain ⟨locs, hlo⟩ : ∃ locs : List Loc, locs = [] := ⟨_, rfl⟩
  have hS : va_S A s.heap H locs := by rw [hH, hlo]; exact hS
  have hP : va_P D vwCl (rdW ad cd T st) H := by rw [hH]; exact hP
  have hl : lv_has ls 3 [(0, .ref (ad 0))] := hl
  have goal : W p l e (rmD 4) s m ([.ref (ad 0)] : List Value).toArray below meth c H locs 0 0 Q (F0 m 0 ls []) := by
    refine lv_iconst (v := 1) hx hb d_Reader_readKeys_0 (by decide) ?_
    refine lv_istore_n (lv' := [(1, .int 1), (0, .ref (ad 0))]) hx hb d_Reader_readKeys_1 rfl hl (by decide) rfl (fun ls hl => ?_)
    have loop2 : ∀ (k : Nat) (j : Nat) (s1 : RS) (H : Heap) (locs : List Loc) (ls : Array Slot), j + k = 9 → fKeyL T 8 st = fKeyL T k s1 → va_P D vwCl (rdW ad cd T s1) H → va_D A (rdW ad cd T s1) → va_S A s.heap H locs → lv_has ls 3 [(1, .int (nI j)), (0, .ref (ad 0))] → W p l e (rmD 4) s m ([.ref (ad 0)] : List Value).toArray below meth c H locs 0 0 Q (F0 m 2 ls []) := by
      intro k
      induction k with
      | zero =>
        intro j s1 H locs ls hj hF hP hD hS hl
        refine lv_iload_n hx hb d_Reader_readKeys_2 rfl (lv_at hl 0 rfl) ?_
        refine lv_bipush (v := 8) hx hb d_Reader_readKeys_3 (by decide) ?_
        refine lv_icmp_gt (tgt := 75) hx hb d_Reader_readKeys_5 (by decide) (fun c_5 => ?_) (fun c_5 => ?_)
        · skip
          have c_5 : (8 < nI j) := c_5
          refine lv_iconst (v := 1) hx hb d_Reader_readKeys_75 (by decide) ?_
          exact hret H locs s1 true _ _ hP hD hS (pr2 (by first | (rw [hF]; ((try simp only [fKeyL]) <;> simp only [fKeyL, keyS, nxt, if_pos c_5, fStop, if_true, if_false, Bool.false_eq_true, ↓reduceIte]); done) | (rw [hF]; ((try simp only [fKeyL]) <;> simp only [fKeyL, keyS, nxt, if_pos c_5, fStop, if_true, if_false, Bool.false_eq_true, ↓reduceIte]); with_reducible rfl))) d_Reader_readKeys_76
        · skip
          exact absurd (nI_tyes (N := 8) rfl (by omega) (by omega)) c_5
      | succ k ih =>
        intro j s1 H locs ls hj hF hP hD hS hl
        refine lv_iload_n hx hb d_Reader_readKeys_2 rfl (lv_at hl 0 rfl) ?_
        refine lv_bipush (v := 8) hx hb d_Reader_readKeys_3 (by decide) ?_
        refine lv_icmp_gt (tgt := 75) hx hb d_Reader_readKeys_5 (by decide) (fun c_5 => ?_) (fun c_5 => ?_)
        · skip
          exact absurd c_5 (nI_tno (N := 8) rfl (by omega) (by omega))
        · skip
          have c_5 : ¬ (8 < nI j) := c_5
          refine lv_aload_n hx hb d_Reader_readKeys_8 rfl (lv_at hl 1 rfl) ?_
          refine hx_Vi (wr := []) (As := []) (rest := []) hI (c_Reader_mark hT s1 ) (cw_V (C := "HeadDesk$Reader") 0 hts m_2_41 m_2_43 ms_5 m_1_2 m_2_44 (by decide +kernel) ⟨by decide, by decide⟩) hX hA hP hD hS [0, 1, 2, 3, 4, 5, 6, 7] [] rfl rfl (by decide) (by decide) (by decide) (va_recv hX.1 hP (ci := 1) (q0 := 0) rfl rfl) rfl hl.1 rfl (Nat.le_of_ble_eq_true rfl) d_Reader_readKeys_9 ⟨Nat.zero_le _, Nat.zero_le _⟩ (fun H locs hP hD hS => ?_)
          have hP : va_P D vwCl (rdW ad cd T s1) H := hP
          have hD : va_D A (rdW ad cd T s1) := hD
          refine lv_istore_n (lv' := [(2, .int (fMark T s1)), (1, .int (nI j)), (0, .ref (ad 0))]) hx hb d_Reader_readKeys_12 rfl hl (by decide) rfl (fun ls hl => ?_)
          refine lv_iload_n hx hb d_Reader_readKeys_13 rfl (lv_at hl 0 rfl) ?_
          refine lv_bipush (v := 97) hx hb d_Reader_readKeys_14 (by decide) ?_
          refine lv_icmp_lt (tgt := 25) hx hb d_Reader_readKeys_16 (by decide) (fun c_16 => ?_) (fun c_16 => ?_)
          · skip
            have c_16 : (fMark T s1 < 97) := c_16
            refine lv_aload_n hx hb d_Reader_readKeys_25 rfl (lv_at hl 2 rfl) ?_
            refine lv_aload_n hx hb d_Reader_readKeys_26 rfl (lv_at hl 2 rfl) ?_
            refine va_get (D := D) (ci := 1) (v := .int (rPl s1)) (C := "HeadDesk$Reader") (T := F_Reader) (N := 11) hx hb hts a_Reader hown hX.1 hP 0 rfl rfl 6 (by decide) (hts _ m_1_67) (fun _ h9 => h9) rfl d_Reader_readKeys_27 ?_
            refine hx_Vz (wr := []) (As := [.int (rPl s1)]) (rest := []) hI (c_Reader_stop hT s1 (rPl s1)) (cw_V (C := "HeadDesk$Reader") 1 hts m_2_87 m_2_89 ms_6 m_1_2 m_2_90 (by decide +kernel) ⟨by decide, by decide⟩) hX hA hP hD hS [0, 1, 2, 3, 4, 5, 6, 7] [] rfl rfl (by decide) (by decide) (by decide) (va_recv hX.1 hP (ci := 1) (q0 := 0) rfl rfl) rfl hl.1 rfl (Nat.le_of_ble_eq_true rfl) d_Reader_readKeys_30 ⟨Nat.zero_le _, Nat.zero_le _⟩ (fun H locs hP hD hS => ?_)
            obtain ⟨s_30, e_30⟩ : ∃ z : RS, z = sSk s1 (rPl s1) := ⟨_, rfl⟩
            have hP : va_P D vwCl (rdW ad cd T s_30) H := by rw [e_30]; exact hP
            have hD : va_D A (rdW ad cd T s_30) := by rw [e_30]; exact hD
            exact hret H locs s_30 false _ _ hP hD hS (pr2 (by first | (rw [hF]; ((try simp only [fKeyL]) <;> simp only [fKeyL, keyS, nxt, if_neg c_5, if_pos c_16, ← e_30, fStop, if_true, if_false, Bool.false_eq_true, ↓reduceIte]); done) | (rw [hF]; ((try simp only [fKeyL]) <;> simp only [fKeyL, keyS, nxt, if_neg c_5, if_pos c_16, ← e_30, fStop, if_true, if_false, Bool.false_eq_true, ↓reduceIte]); with_reducible rfl) | (rw [hF]; ((try simp only [fKeyL]) <;> simp only [fKeyL, keyS, nxt, if_neg c_5, if_pos c_16, ← e_30, fStop, if_true, if_false, Bool.false_eq_true, ↓reduceIte]); rw [e_30]))) d_Reader_readKeys_33
          · skip
            have c_16 : ¬ (fMark T s1 < 97) := c_16
            refine lv_iload_n hx hb d_Reader_readKeys_19 rfl (lv_at hl 0 rfl) ?_
            refine lv_bipush (v := 104) hx hb d_Reader_readKeys_20 (by decide) ?_
            refine lv_icmp_le (tgt := 34) hx hb d_Reader_readKeys_22 (by decide) (fun c_22 => ?_) (fun c_22 => ?_)
            · skip
              have c_22 : (fMark T s1 ≤ 104) := c_22
              refine lv_aload_n hx hb d_Reader_readKeys_34 rfl (lv_at hl 2 rfl) ?_
              refine va_get (D := D) (ci := 1) (v := .ref (ad 5)) (C := "HeadDesk$Reader") (T := F_Reader) (N := 11) hx hb hts a_Reader hown hX.1 hP 0 rfl rfl 3 (by decide) (hts _ m_1_64) (fun _ h9 => h9) rfl d_Reader_readKeys_35 ?_
              refine lv_iload_n hx hb d_Reader_readKeys_38 rfl (lv_at hl 0 rfl) ?_
              refine hx_Vv (wr := [(ad 0, .inr (1, [.ref (ad 1), .ref (ad 3), .ref (ad 4), .ref (ad 5), .int (rNm s1), .int (rKd s1), .int (rPl s1), .int (rSk s1), .int (rNb s1), .int (rWs s1), .int (rWe s1)])), (ad 1, .inr (2, [.ref (ad 2), .int (T.2)])), (ad 2, .inl (cd 0, 300, .inl T.1)), (ad 3, .inl (cd 1, 100, .inl (rNs s1))), (ad 4, .inl (cd 2, 100, .inl (rNe s1)))]) (As := [.int (fMark T s1)]) (rest := []) hI (c_Head_addKey (ah := ad 5) (av := ad 6) (ar := ad 7) (cv := cd 3) (cr := cd 4) (tv := 3) (tr := 4) rfl rfl (rVs s1, rVr s1) (fMark T s1)) (cw_V (C := "HeadDesk$Head") 1 hts m_2_190 m_2_191 m_2_192 m_1_4 m_2_193 (by decide +kernel) ⟨by decide, by decide⟩) hX hA hP hD hS [5, 6, 7] [0, 1, 2, 3, 4] rfl rfl (by decide) (by decide) (by decide) (va_recv hX.1 hP (ci := 0) (q0 := 5) rfl rfl) rfl hl.1 rfl (Nat.le_of_ble_eq_true rfl) d_Reader_readKeys_39 ⟨Nat.zero_le _, Nat.zero_le _⟩ (fun H locs hP hD hS => ?_)
              obtain ⟨s_39, e_39⟩ : ∃ z : RS, z = sVs s1 (hKey (rVs s1) (fMark T s1)) := ⟨_, rfl⟩
              have hP : va_P D vwCl (rdW ad cd T s_39) H := by rw [e_39]; exact hP.sub [0, 1, 2, 3, 4, 5, 6, 7] rfl
              have hD : va_D A (rdW ad cd T s_39) := by rw [e_39]; exact hD.sub [0, 1, 2, 3, 4, 5, 6, 7] (by decide) rfl
              refine lv_aload_n hx hb d_Reader_readKeys_42 rfl (lv_at hl 2 rfl) ?_
              refine lv_dup hx hb d_Reader_readKeys_43 rfl ?_
              refine va_get (D := D) (ci := 1) (v := .int (rPl s_39)) (C := "HeadDesk$Reader") (T := F_Reader) (N := 11) hx hb hts a_Reader hown hX.1 hP 0 rfl rfl 6 (by decide) (hts _ m_1_67) (fun _ h9 => h9) rfl d_Reader_readKeys_44 ?_
              refine lv_iconst (v := 1) hx hb d_Reader_readKeys_47 (by decide) ?_
              refine lv_iadd hx hb d_Reader_readKeys_48 ?_
              refine va_put (D := D) (ci := 1) (v := .int ((rPl s_39) + 1)) (ty := .int) (C := "HeadDesk$Reader") (T := F_Reader) (N := 11) hx hb hts a_Reader t_Reader k_Reader n_Reader hown hX.1 hP hD hS 0 rfl rfl 6 (by decide) (hts _ m_1_67) (fun _ h9 => h9) rfl (by decide +kernel) rfl rfl (Nat.le_of_ble_eq_true rfl) d_Reader_readKeys_49 (fun H locs hP hD hS => ?_)
              have hP : va_P D vwCl (rdW ad cd T (sPl s_39 ((rPl s_39) + 1))) H := hP
              have hD : va_D A (rdW ad cd T (sPl s_39 ((rPl s_39) + 1))) := hD
              refine lv_iload_n hx hb d_Reader_readKeys_52 rfl (lv_at hl 1 rfl) ?_
              refine lv_bipush (v := 8) hx hb d_Reader_readKeys_53 (by decide) ?_
              refine lv_icmp_eq (tgt := 67) hx hb d_Reader_readKeys_55 (by decide) (fun c_55 => ?_) (fun c_55 => ?_)
              · skip
                have c_55 : k = 0 := nI_k0 (N := 8) rfl (by omega) (by omega) c_55
                refine lv_iconst (v := 1) hx hb d_Reader_readKeys_67 (by decide) ?_
                exact hret H locs (sPl s_39 ((rPl s_39) + 1)) true _ _ hP hD hS (pr2 (by first | (rw [hF]; ((try simp only [fKeyL]) <;> simp only [fKeyL, keyS, nxt, if_neg c_5, if_neg c_16, if_pos c_22, if_pos c_55, ← e_39, fStop, if_true, if_false, Bool.false_eq_true, ↓reduceIte]); done) | (rw [hF]; ((try simp only [fKeyL]) <;> simp only [fKeyL, keyS, nxt, if_neg c_5, if_neg c_16, if_pos c_22, if_pos c_55, ← e_39, fStop, if_true, if_false, Bool.false_eq_true, ↓reduceIte]); with_reducible rfl) | (rw [hF]; ((try simp only [fKeyL]) <;> simp only [fKeyL, keyS, nxt, if_neg c_5, if_neg c_16, if_pos c_22, if_pos c_55, ← e_39, fStop, if_true, if_false, Bool.false_eq_true, ↓reduceIte]); rw [e_39]))) d_Reader_readKeys_68
              · skip
                have c_55 : ¬ k = 0 := fun h => c_55 (nI_k1 (N := 8) rfl (by omega))
                refine lv_aload_n hx hb d_Reader_readKeys_58 rfl (lv_at hl 2 rfl) ?_
                refine lv_bipush (v := 32) hx hb d_Reader_readKeys_59 (by decide) ?_
                refine hx_Vz (wr := []) (As := [.int 32]) (rest := []) hI (c_Reader_skip hT (sPl s_39 ((rPl s_39) + 1)) 32) (cw_V (C := "HeadDesk$Reader") 1 hts m_2_108 m_2_110 ms_10 m_1_2 m_2_111 (by decide +kernel) ⟨by decide, by decide⟩) hX hA hP hD hS [0, 1, 2, 3, 4, 5, 6, 7] [] rfl rfl (by decide) (by decide) (by decide) (va_recv hX.1 hP (ci := 1) (q0 := 0) rfl rfl) rfl hl.1 rfl (Nat.le_of_ble_eq_true rfl) d_Reader_readKeys_61 ⟨Nat.zero_le _, Nat.zero_le _⟩ (fun H locs hP hD hS => ?_)
                obtain ⟨s_61, e_61⟩ : ∃ z : RS, z = (fSkip T (sPl s_39 ((rPl s_39) + 1)) 32).2 := ⟨_, rfl⟩
                have hP : va_P D vwCl (rdW ad cd T s_61) H := by rw [e_61]; exact hP
                have hD : va_D A (rdW ad cd T s_61) := by rw [e_61]; exact hD
                refine lv_if_ne (tgt := 69) hx hb d_Reader_readKeys_64 (by decide) (fun c_64 => ?_) (fun c_64 => ?_)
                · skip
                  have c_64 : ((fSkip T (sPl s_39 ((rPl s_39) + 1)) 32).1) = true := bI_1 c_64
                  refine lv_iinc (v := nI (j + 1)) (lv' := [(1, .int (nI (j + 1))), (2, .int (fMark T s1)), (0, .ref (ad 0))]) hx hb d_Reader_readKeys_69 hl (k := 1) rfl (by rw [nI_succ]; rfl) (by decide) rfl (fun ls hl => ?_)
                  refine lv_goto (tgt := 2) hx hb d_Reader_readKeys_72 (by decide) ?_
                  exact ih (j + 1) s_61 H locs ls (by omega)  (by first | (rw [hF]; ((try simp only [fKeyL]) <;> simp only [fKeyL, keyS, nxt, if_neg c_5, if_neg c_16, if_pos c_22, if_neg c_55, c_64, bnd_t c_64, ← e_39, ← e_61, fStop, if_true, if_false, Bool.false_eq_true, ↓reduceIte]); done) | (rw [hF]; ((try simp only [fKeyL]) <;> simp only [fKeyL, keyS, nxt, if_neg c_5, if_neg c_16, if_pos c_22, if_neg c_55, c_64, bnd_t c_64, ← e_39, ← e_61, fStop, if_true, if_false, Bool.false_eq_true, ↓reduceIte]); with_reducible rfl) | (rw [hF]; ((try simp only [fKeyL]) <;> simp only [fKeyL, keyS, nxt, if_neg c_5, if_neg c_16, if_pos c_22, if_neg c_55, c_64, bnd_t c_64, ← e_39, ← e_61, fStop, if_true, if_false, Bool.false_eq_true, ↓reduceIte]); rw [e_61])) hP hD hS (lv_sub hl [0, 2] rfl)
                · skip
                  have c_64 : ((fSkip T (sPl s_39 ((rPl s_39) + 1)) 32).1) = false := bI_0 c_64
                  refine lv_iconst (v := 1) hx hb d_Reader_readKeys_67 (by decide) ?_
                  exact hret H locs s_61 true _ _ hP hD hS (pr2 (by first | (rw [hF]; ((try simp only [fKeyL]) <;> simp only [fKeyL, keyS, nxt, if_neg c_5, if_neg c_16, if_pos c_22, if_neg c_55, c_64, bnd_f c_64, ← e_39, ← e_61, fStop, if_true, if_false, Bool.false_eq_true, ↓reduceIte]); done) | (rw [hF]; ((try simp only [fKeyL]) <;> simp only [fKeyL, keyS, nxt, if_neg c_5, if_neg c_16, if_pos c_22, if_neg c_55, c_64, bnd_f c_64, ← e_39, ← e_61, fStop, if_true, if_false, Bool.false_eq_true, ↓reduceIte]); with_reducible rfl) | (rw [hF]; ((try simp only [fKeyL]) <;> simp only [fKeyL, keyS, nxt, if_neg c_5, if_neg c_16, if_pos c_22, if_neg c_55, c_64, bnd_f c_64, ← e_39, ← e_61, fStop, if_true, if_false, Bool.false_eq_true, ↓reduceIte]); rw [e_61]))) d_Reader_readKeys_68
            · skip
              have c_22 : ¬ (fMark T s1 ≤ 104) := c_22
              refine lv_aload_n hx hb d_Reader_readKeys_25 rfl (lv_at hl 2 rfl) ?_
              refine lv_aload_n hx hb d_Reader_readKeys_26 rfl (lv_at hl 2 rfl) ?_
              refine va_get (D := D) (ci := 1) (v := .int (rPl s1)) (C := "HeadDesk$Reader") (T := F_Reader) (N := 11) hx hb hts a_Reader hown hX.1 hP 0 rfl rfl 6 (by decide) (hts _ m_1_67) (fun _ h9 => h9) rfl d_Reader_readKeys_27 ?_
              refine hx_Vz (wr := []) (As := [.int (rPl s1)]) (rest := []) hI (c_Reader_stop hT s1 (rPl s1)) (cw_V (C := "HeadDesk$Reader") 1 hts m_2_87 m_2_89 ms_6 m_1_2 m_2_90 (by decide +kernel) ⟨by decide, by decide⟩) hX hA hP hD hS [0, 1, 2, 3, 4, 5, 6, 7] [] rfl rfl (by decide) (by decide) (by decide) (va_recv hX.1 hP (ci := 1) (q0 := 0) rfl rfl) rfl hl.1 rfl (Nat.le_of_ble_eq_true rfl) d_Reader_readKeys_30 ⟨Nat.zero_le _, Nat.zero_le _⟩ (fun H locs hP hD hS => ?_)
              obtain ⟨s_30, e_30⟩ : ∃ z : RS, z = sSk s1 (rPl s1) := ⟨_, rfl⟩
              have hP : va_P D vwCl (rdW ad cd T s_30) H := by rw [e_30]; exact hP
              have hD : va_D A (rdW ad cd T s_30) := by rw [e_30]; exact hD
              exact hret H locs s_30 false _ _ hP hD hS (pr2 (by first | (rw [hF]; ((try simp only [fKeyL]) <;> simp only [fKeyL, keyS, nxt, if_neg c_5, if_neg c_16, if_neg c_22, ← e_30, fStop, if_true, if_false, Bool.false_eq_true, ↓reduceIte]); done) | (rw [hF]; ((try simp only [fKeyL]) <;> simp only [fKeyL, keyS, nxt, if_neg c_5, if_neg c_16, if_neg c_22, ← e_30, fStop, if_true, if_false, Bool.false_eq_true, ↓reduceIte]); with_reducible rfl) | (rw [hF]; ((try simp only [fKeyL]) <;> simp only [fKeyL, keyS, nxt, if_neg c_5, if_neg c_16, if_neg c_22, ← e_30, fStop, if_true, if_false, Bool.false_eq_true, ↓reduceIte]); rw [e_30]))) d_Reader_readKeys_33
    exact loop2 8 1 st H locs ls (by omega) rfl hP hD hS (lv_sub hl [0, 1] rfl)
  rw [hH, hlo] at goal
  exact goal
set_option maxHeartbeats 4000000 in
set_option maxRecDepth 100000 in
theorem c_Reader_readList (hT : T.2 ≤ 300) (st : RS)  : hx_Mz l D (tyH cd) adK adV tF (rdW ad cd T) y_Reader_readList w_Reader_readList (rmD 7) [.ref (ad 0)] st ((fLisL T 300 st).1) ((fLisL T 300 st).2) := by
  refine hx_Mz.of (cc := b_Reader_readList) (maxL := 2) (by decide) rfl (Nat.le_of_ble_eq_true rfl) ?_
  intro p e s m below meth c A Q ls hI hX hA hP hD hS hl hret
  obtain ⟨hx, hb, hml, hown, hts⟩ := id hI
  have hts : ∀ w ∈ aw, w.before ([.ref (ad 0)] : List Value).toArray s = true := fun w h => hts w (List.mem_cons_of_mem _ h)
  have hown : s.vm.findClass "HeadDesk$Reader" = some m.cls := hown
  have hI : hx_In p s m ([.ref (ad 0)] : List Value).toArray c b_Reader_readList 2 "HeadDesk$Reader" aw := ⟨hx, hb, hml, hown, hts⟩
  have hP : va_P D vwCl (rdW ad cd T st) s.heap := hP
  obtain ⟨H, hH⟩ : ∃ H, H = s.heap := ⟨_, rfl⟩
  obtain ⟨locs, hlo⟩ : ∃ locs : List Loc, locs = [] := ⟨_, rfl⟩
  have hS : va_S A s.heap H locs := by rw [hH, hlo]; exact hS
  have hP : va_P D vwCl (rdW ad cd T st) H := by rw [hH]; exact hP
  have hl : lv_has ls 2 [(0, .ref (ad 0))] := hl
  have goal : W p l e (rmD 7) s m ([.ref (ad 0)] : List Value).toArray below meth c H locs 0 0 Q (F0 m 0 ls []) := by
    refine lv_iconst (v := 0) hx hb d_Reader_readList_0 (by decide) ?_
    refine lv_istore_n (lv' := [(1, .int 0), (0, .ref (ad 0))]) hx hb d_Reader_readList_1 rfl hl (by decide) rfl (fun ls hl => ?_)
    have loop2 : ∀ (k : Nat) (j : Nat) (s1 : RS) (H : Heap) (locs : List Loc) (ls : Array Slot), j + k = 300 → fLisL T 300 st = fLisL T k s1 → va_P D vwCl (rdW ad cd T s1) H → va_D A (rdW ad cd T s1) → va_S A s.heap H locs → lv_has ls 2 [(1, .int (nI j)), (0, .ref (ad 0))] → W p l e (rmD 7) s m ([.ref (ad 0)] : List Value).toArray below meth c H locs 0 0 Q (F0 m 2 ls []) := by
      intro k
      induction k with
      | zero =>
        intro j s1 H locs ls hj hF hP hD hS hl
        refine lv_iload_n hx hb d_Reader_readList_2 rfl (lv_at hl 0 rfl) ?_
        refine lv_sipush (v := 300) hx hb d_Reader_readList_3 (by decide) ?_
        refine lv_icmp_ge (tgt := 82) hx hb d_Reader_readList_6 (by decide) (fun c_6 => ?_) (fun c_6 => ?_)
        · skip
          have c_6 : (300 ≤ nI j) := c_6
          refine lv_aload_n hx hb d_Reader_readList_82 rfl (lv_at hl 1 rfl) ?_
          refine lv_aload_n hx hb d_Reader_readList_83 rfl (lv_at hl 1 rfl) ?_
          refine va_get (D := D) (ci := 1) (v := .int (rPl s1)) (C := "HeadDesk$Reader") (T := F_Reader) (N := 11) hx hb hts a_Reader hown hX.1 hP 0 rfl rfl 6 (by decide) (hts _ m_1_67) (fun _ h9 => h9) rfl d_Reader_readList_84 ?_
          refine hx_Vz (wr := []) (As := [.int (rPl s1)]) (rest := []) hI (c_Reader_stop hT s1 (rPl s1)) (cw_V (C := "HeadDesk$Reader") 1 hts m_2_87 m_2_89 ms_6 m_1_2 m_2_90 (by decide +kernel) ⟨by decide, by decide⟩) hX hA hP hD hS [0, 1, 2, 3, 4, 5, 6, 7] [] rfl rfl (by decide) (by decide) (by decide) (va_recv hX.1 hP (ci := 1) (q0 := 0) rfl rfl) rfl hl.1 rfl (Nat.le_of_ble_eq_true rfl) d_Reader_readList_87 ⟨Nat.zero_le _, Nat.zero_le _⟩ (fun H locs hP hD hS => ?_)
          obtain ⟨s_87, e_87⟩ : ∃ z : RS, z = sSk s1 (rPl s1) := ⟨_, rfl⟩
          have hP : va_P D vwCl (rdW ad cd T s_87) H := by rw [e_87]; exact hP
          have hD : va_D A (rdW ad cd T s_87) := by rw [e_87]; exact hD
          exact hret H locs s_87 false _ _ hP hD hS (pr2 (by first | (rw [hF]; ((try simp only [fLisL]) <;> simp only [fLisL, lisE, if_pos c_6, ← e_87, fStop, if_true, if_false, Bool.false_eq_true, ↓reduceIte]); done) | (rw [hF]; ((try simp only [fLisL]) <;> simp only [fLisL, lisE, if_pos c_6, ← e_87, fStop, if_true, if_false, Bool.false_eq_true, ↓reduceIte]); with_reducible rfl) | (rw [hF]; ((try simp only [fLisL]) <;> simp only [fLisL, lisE, if_pos c_6, ← e_87, fStop, if_true, if_false, Bool.false_eq_true, ↓reduceIte]); rw [e_87]))) d_Reader_readList_90
        · skip
          exact absurd (nI_gyes (N := 300) rfl (by omega) (by omega)) c_6
      | succ k ih =>
        intro j s1 H locs ls hj hF hP hD hS hl
        refine lv_iload_n hx hb d_Reader_readList_2 rfl (lv_at hl 0 rfl) ?_
        refine lv_sipush (v := 300) hx hb d_Reader_readList_3 (by decide) ?_
        refine lv_icmp_ge (tgt := 82) hx hb d_Reader_readList_6 (by decide) (fun c_6 => ?_) (fun c_6 => ?_)
        · skip
          exact absurd c_6 (nI_gno (N := 300) rfl (by omega) (by omega))
        · skip
          have c_6 : ¬ (300 ≤ nI j) := c_6
          refine lv_aload_n hx hb d_Reader_readList_9 rfl (lv_at hl 1 rfl) ?_
          refine lv_bipush (v := 30) hx hb d_Reader_readList_10 (by decide) ?_
          refine hx_Vz (wr := []) (As := [.int 30]) (rest := []) hI (c_Reader_takeLetters hT s1 30 (by decide)) (cw_V (C := "HeadDesk$Reader") 1 hts m_2_116 m_2_118 ms_12 m_1_2 m_2_119 (by decide +kernel) ⟨by decide, by decide⟩) hX hA hP hD hS [0, 1, 2, 3, 4, 5, 6, 7] [] rfl rfl (by decide) (by decide) (by decide) (va_recv hX.1 hP (ci := 1) (q0 := 0) rfl rfl) rfl hl.1 rfl (Nat.le_of_ble_eq_true rfl) d_Reader_readList_12 ⟨Nat.zero_le _, Nat.zero_le _⟩ (fun H locs hP hD hS => ?_)
          obtain ⟨s_12, e_12⟩ : ∃ z : RS, z = (fLet T s1 30).2 := ⟨_, rfl⟩
          have hP : va_P D vwCl (rdW ad cd T s_12) H := by rw [e_12]; exact hP
          have hD : va_D A (rdW ad cd T s_12) := by rw [e_12]; exact hD
          refine lv_if_ne (tgt := 20) hx hb d_Reader_readList_15 (by decide) (fun c_15 => ?_) (fun c_15 => ?_)
          · skip
            have c_15 : ((fLet T s1 30).1) = true := bI_1 c_15
            refine lv_aload_n hx hb d_Reader_readList_20 rfl (lv_at hl 1 rfl) ?_
            refine lv_bipush (v := 61) hx hb d_Reader_readList_21 (by decide) ?_
            refine hx_Vz (wr := []) (As := [.int 61]) (rest := []) hI (c_Reader_skip hT s_12 61) (cw_V (C := "HeadDesk$Reader") 1 hts m_2_108 m_2_110 ms_10 m_1_2 m_2_111 (by decide +kernel) ⟨by decide, by decide⟩) hX hA hP hD hS [0, 1, 2, 3, 4, 5, 6, 7] [] rfl rfl (by decide) (by decide) (by decide) (va_recv hX.1 hP (ci := 1) (q0 := 0) rfl rfl) rfl hl.1 rfl (Nat.le_of_ble_eq_true rfl) d_Reader_readList_23 ⟨Nat.zero_le _, Nat.zero_le _⟩ (fun H locs hP hD hS => ?_)
            obtain ⟨s_23, e_23⟩ : ∃ z : RS, z = (fSkip T s_12 61).2 := ⟨_, rfl⟩
            have hP : va_P D vwCl (rdW ad cd T s_23) H := by rw [e_23]; exact hP
            have hD : va_D A (rdW ad cd T s_23) := by rw [e_23]; exact hD
            refine lv_if_ne (tgt := 36) hx hb d_Reader_readList_26 (by decide) (fun c_26 => ?_) (fun c_26 => ?_)
            · skip
              have c_26 : ((fSkip T s_12 61).1) = true := bI_1 c_26
              refine lv_aload_n hx hb d_Reader_readList_36 rfl (lv_at hl 1 rfl) ?_
              refine lv_ldc (v := 99999) hx hb hown (hts _ m_2_152) d_Reader_readList_37 ?_
              refine hx_Vz (wr := []) (As := [.int 99999]) (rest := []) hI (c_Reader_takeNumber hT s_23 99999) (cw_V (C := "HeadDesk$Reader") 1 hts m_2_101 m_2_103 ms_9 m_1_2 m_2_104 (by decide +kernel) ⟨by decide, by decide⟩) hX hA hP hD hS [0, 1, 2, 3, 4, 5, 6, 7] [] rfl rfl (by decide) (by decide) (by decide) (va_recv hX.1 hP (ci := 1) (q0 := 0) rfl rfl) rfl hl.1 rfl (Nat.le_of_ble_eq_true rfl) d_Reader_readList_39 ⟨Nat.zero_le _, Nat.zero_le _⟩ (fun H locs hP hD hS => ?_)
              obtain ⟨s_39, e_39⟩ : ∃ z : RS, z = (fNum T s_23 99999).2 := ⟨_, rfl⟩
              have hP : va_P D vwCl (rdW ad cd T s_39) H := by rw [e_39]; exact hP
              have hD : va_D A (rdW ad cd T s_39) := by rw [e_39]; exact hD
              refine lv_if_eq (tgt := 52) hx hb d_Reader_readList_42 (by decide) (fun c_42 => ?_) (fun c_42 => ?_)
              · skip
                have c_42 : ((fNum T s_23 99999).1) = false := bI_0 c_42
                refine lv_iconst (v := 0) hx hb d_Reader_readList_52 (by decide) ?_
                exact hret H locs s_39 false _ _ hP hD hS (pr2 (by first | (rw [hF]; ((try simp only [fLisL]) <;> simp only [fLisL, lisE, if_neg c_6, c_15, c_26, c_42, bnd_t c_15, bnd_t c_26, bnd_f c_42, ← e_12, ← e_23, ← e_39, fStop, if_true, if_false, Bool.false_eq_true, ↓reduceIte]); done) | (rw [hF]; ((try simp only [fLisL]) <;> simp only [fLisL, lisE, if_neg c_6, c_15, c_26, c_42, bnd_t c_15, bnd_t c_26, bnd_f c_42, ← e_12, ← e_23, ← e_39, fStop, if_true, if_false, Bool.false_eq_true, ↓reduceIte]); with_reducible rfl) | (rw [hF]; ((try simp only [fLisL]) <;> simp only [fLisL, lisE, if_neg c_6, c_15, c_26, c_42, bnd_t c_15, bnd_t c_26, bnd_f c_42, ← e_12, ← e_23, ← e_39, fStop, if_true, if_false, Bool.false_eq_true, ↓reduceIte]); rw [e_39]))) d_Reader_readList_53
              · skip
                have c_42 : ((fNum T s_23 99999).1) = true := bI_1 c_42
                refine lv_aload_n hx hb d_Reader_readList_45 rfl (lv_at hl 1 rfl) ?_
                refine hx_Vv (wr := []) (As := []) (rest := []) hI (c_Reader_countWithNumber hT s_39 ) (cw_V (C := "HeadDesk$Reader") 0 hts m_2_153 m_2_155 ms_19 m_1_2 m_2_156 (by decide +kernel) ⟨by decide, by decide⟩) hX hA hP hD hS [0, 1, 2, 3, 4, 5, 6, 7] [] rfl rfl (by decide) (by decide) (by decide) (va_recv hX.1 hP (ci := 1) (q0 := 0) rfl rfl) rfl hl.1 rfl (Nat.le_of_ble_eq_true rfl) d_Reader_readList_46 ⟨Nat.zero_le _, Nat.zero_le _⟩ (fun H locs hP hD hS => ?_)
                obtain ⟨s_46, e_46⟩ : ∃ z : RS, z = fWith T s_39 := ⟨_, rfl⟩
                have hP : va_P D vwCl (rdW ad cd T s_46) H := by rw [e_46]; exact hP
                have hD : va_D A (rdW ad cd T s_46) := by rw [e_46]; exact hD
                refine lv_goto (tgt := 54) hx hb d_Reader_readList_49 (by decide) ?_
                refine lv_aload_n hx hb d_Reader_readList_54 rfl (lv_at hl 1 rfl) ?_
                refine lv_bipush (v := 44) hx hb d_Reader_readList_55 (by decide) ?_
                refine hx_Vz (wr := []) (As := [.int 44]) (rest := []) hI (c_Reader_skip hT s_46 44) (cw_V (C := "HeadDesk$Reader") 1 hts m_2_108 m_2_110 ms_10 m_1_2 m_2_111 (by decide +kernel) ⟨by decide, by decide⟩) hX hA hP hD hS [0, 1, 2, 3, 4, 5, 6, 7] [] rfl rfl (by decide) (by decide) (by decide) (va_recv hX.1 hP (ci := 1) (q0 := 0) rfl rfl) rfl hl.1 rfl (Nat.le_of_ble_eq_true rfl) d_Reader_readList_57 ⟨Nat.zero_le _, Nat.zero_le _⟩ (fun H locs hP hD hS => ?_)
                obtain ⟨s_57, e_57⟩ : ∃ z : RS, z = (fSkip T s_46 44).2 := ⟨_, rfl⟩
                have hP : va_P D vwCl (rdW ad cd T s_57) H := by rw [e_57]; exact hP
                have hD : va_D A (rdW ad cd T s_57) := by rw [e_57]; exact hD
                refine lv_if_ne (tgt := 65) hx hb d_Reader_readList_60 (by decide) (fun c_60 => ?_) (fun c_60 => ?_)
                · skip
                  have c_60 : ((fSkip T s_46 44).1) = true := bI_1 c_60
                  refine lv_aload_n hx hb d_Reader_readList_65 rfl (lv_at hl 1 rfl) ?_
                  refine lv_bipush (v := 32) hx hb d_Reader_readList_66 (by decide) ?_
                  refine hx_Vz (wr := []) (As := [.int 32]) (rest := []) hI (c_Reader_take hT s_57 32) (cw_V (C := "HeadDesk$Reader") 1 hts m_2_93 m_2_95 ms_7 m_1_2 m_2_96 (by decide +kernel) ⟨by decide, by decide⟩) hX hA hP hD hS [0, 1, 2, 3, 4, 5, 6, 7] [] rfl rfl (by decide) (by decide) (by decide) (va_recv hX.1 hP (ci := 1) (q0 := 0) rfl rfl) rfl hl.1 rfl (Nat.le_of_ble_eq_true rfl) d_Reader_readList_68 ⟨Nat.zero_le _, Nat.zero_le _⟩ (fun H locs hP hD hS => ?_)
                  obtain ⟨s_68, e_68⟩ : ∃ z : RS, z = (fTake T s_57 32).2 := ⟨_, rfl⟩
                  have hP : va_P D vwCl (rdW ad cd T s_68) H := by rw [e_68]; exact hP
                  have hD : va_D A (rdW ad cd T s_68) := by rw [e_68]; exact hD
                  refine lv_if_ne (tgt := 76) hx hb d_Reader_readList_71 (by decide) (fun c_71 => ?_) (fun c_71 => ?_)
                  · skip
                    have c_71 : ((fTake T s_57 32).1) = true := bI_1 c_71
                    refine lv_iinc (v := nI (j + 1)) (lv' := [(1, .int (nI (j + 1))), (0, .ref (ad 0))]) hx hb d_Reader_readList_76 hl (k := 0) rfl (by rw [nI_succ]; rfl) (by decide) rfl (fun ls hl => ?_)
                    refine lv_goto (tgt := 2) hx hb d_Reader_readList_79 (by decide) ?_
                    exact ih (j + 1) s_68 H locs ls (by omega)  (by first | (rw [hF]; ((try simp only [fLisL]) <;> simp only [fLisL, lisE, if_neg c_6, c_15, c_26, c_42, c_60, c_71, bnd_t c_15, bnd_t c_26, bnd_t c_42, bnd_t c_60, bnd_t c_71, ← e_12, ← e_23, ← e_39, ← e_46, ← e_57, ← e_68, fStop, if_true, if_false, Bool.false_eq_true, ↓reduceIte]); done) | (rw [hF]; ((try simp only [fLisL]) <;> simp only [fLisL, lisE, if_neg c_6, c_15, c_26, c_42, c_60, c_71, bnd_t c_15, bnd_t c_26, bnd_t c_42, bnd_t c_60, bnd_t c_71, ← e_12, ← e_23, ← e_39, ← e_46, ← e_57, ← e_68, fStop, if_true, if_false, Bool.false_eq_true, ↓reduceIte]); with_reducible rfl) | (rw [hF]; ((try simp only [fLisL]) <;> simp only [fLisL, lisE, if_neg c_6, c_15, c_26, c_42, c_60, c_71, bnd_t c_15, bnd_t c_26, bnd_t c_42, bnd_t c_60, bnd_t c_71, ← e_12, ← e_23, ← e_39, ← e_46, ← e_57, ← e_68, fStop, if_true, if_false, Bool.false_eq_true, ↓reduceIte]); rw [e_68])) hP hD hS (lv_sub hl [0, 1] rfl)
                  · skip
                    have c_71 : ((fTake T s_57 32).1) = false := bI_0 c_71
                    refine lv_iconst (v := 0) hx hb d_Reader_readList_74 (by decide) ?_
                    exact hret H locs s_68 false _ _ hP hD hS (pr2 (by first | (rw [hF]; ((try simp only [fLisL]) <;> simp only [fLisL, lisE, if_neg c_6, c_15, c_26, c_42, c_60, c_71, bnd_t c_15, bnd_t c_26, bnd_t c_42, bnd_t c_60, bnd_f c_71, ← e_12, ← e_23, ← e_39, ← e_46, ← e_57, ← e_68, fStop, if_true, if_false, Bool.false_eq_true, ↓reduceIte]); done) | (rw [hF]; ((try simp only [fLisL]) <;> simp only [fLisL, lisE, if_neg c_6, c_15, c_26, c_42, c_60, c_71, bnd_t c_15, bnd_t c_26, bnd_t c_42, bnd_t c_60, bnd_f c_71, ← e_12, ← e_23, ← e_39, ← e_46, ← e_57, ← e_68, fStop, if_true, if_false, Bool.false_eq_true, ↓reduceIte]); with_reducible rfl) | (rw [hF]; ((try simp only [fLisL]) <;> simp only [fLisL, lisE, if_neg c_6, c_15, c_26, c_42, c_60, c_71, bnd_t c_15, bnd_t c_26, bnd_t c_42, bnd_t c_60, bnd_f c_71, ← e_12, ← e_23, ← e_39, ← e_46, ← e_57, ← e_68, fStop, if_true, if_false, Bool.false_eq_true, ↓reduceIte]); rw [e_68]))) d_Reader_readList_75
                · skip
                  have c_60 : ((fSkip T s_46 44).1) = false := bI_0 c_60
                  refine lv_iconst (v := 1) hx hb d_Reader_readList_63 (by decide) ?_
                  exact hret H locs s_57 true _ _ hP hD hS (pr2 (by first | (rw [hF]; ((try simp only [fLisL]) <;> simp only [fLisL, lisE, if_neg c_6, c_15, c_26, c_42, c_60, bnd_t c_15, bnd_t c_26, bnd_t c_42, bnd_f c_60, ← e_12, ← e_23, ← e_39, ← e_46, ← e_57, fStop, if_true, if_false, Bool.false_eq_true, ↓reduceIte]); done) | (rw [hF]; ((try simp only [fLisL]) <;> simp only [fLisL, lisE, if_neg c_6, c_15, c_26, c_42, c_60, bnd_t c_15, bnd_t c_26, bnd_t c_42, bnd_f c_60, ← e_12, ← e_23, ← e_39, ← e_46, ← e_57, fStop, if_true, if_false, Bool.false_eq_true, ↓reduceIte]); with_reducible rfl) | (rw [hF]; ((try simp only [fLisL]) <;> simp only [fLisL, lisE, if_neg c_6, c_15, c_26, c_42, c_60, bnd_t c_15, bnd_t c_26, bnd_t c_42, bnd_f c_60, ← e_12, ← e_23, ← e_39, ← e_46, ← e_57, fStop, if_true, if_false, Bool.false_eq_true, ↓reduceIte]); rw [e_57]))) d_Reader_readList_64
            · skip
              have c_26 : ((fSkip T s_12 61).1) = false := bI_0 c_26
              refine lv_aload_n hx hb d_Reader_readList_29 rfl (lv_at hl 1 rfl) ?_
              refine hx_Vv (wr := []) (As := []) (rest := []) hI (c_Reader_countBare hT s_23 ) (cw_V (C := "HeadDesk$Reader") 0 hts m_2_144 m_2_146 ms_18 m_1_2 m_2_147 (by decide +kernel) ⟨by decide, by decide⟩) hX hA hP hD hS [0, 1, 2, 3, 4, 5, 6, 7] [] rfl rfl (by decide) (by decide) (by decide) (va_recv hX.1 hP (ci := 1) (q0 := 0) rfl rfl) rfl hl.1 rfl (Nat.le_of_ble_eq_true rfl) d_Reader_readList_30 ⟨Nat.zero_le _, Nat.zero_le _⟩ (fun H locs hP hD hS => ?_)
              obtain ⟨s_30, e_30⟩ : ∃ z : RS, z = fBare T s_23 := ⟨_, rfl⟩
              have hP : va_P D vwCl (rdW ad cd T s_30) H := by rw [e_30]; exact hP
              have hD : va_D A (rdW ad cd T s_30) := by rw [e_30]; exact hD
              refine lv_goto (tgt := 54) hx hb d_Reader_readList_33 (by decide) ?_
              refine lv_aload_n hx hb d_Reader_readList_54 rfl (lv_at hl 1 rfl) ?_
              refine lv_bipush (v := 44) hx hb d_Reader_readList_55 (by decide) ?_
              refine hx_Vz (wr := []) (As := [.int 44]) (rest := []) hI (c_Reader_skip hT s_30 44) (cw_V (C := "HeadDesk$Reader") 1 hts m_2_108 m_2_110 ms_10 m_1_2 m_2_111 (by decide +kernel) ⟨by decide, by decide⟩) hX hA hP hD hS [0, 1, 2, 3, 4, 5, 6, 7] [] rfl rfl (by decide) (by decide) (by decide) (va_recv hX.1 hP (ci := 1) (q0 := 0) rfl rfl) rfl hl.1 rfl (Nat.le_of_ble_eq_true rfl) d_Reader_readList_57 ⟨Nat.zero_le _, Nat.zero_le _⟩ (fun H locs hP hD hS => ?_)
              obtain ⟨s_57, e_57⟩ : ∃ z : RS, z = (fSkip T s_30 44).2 := ⟨_, rfl⟩
              have hP : va_P D vwCl (rdW ad cd T s_57) H := by rw [e_57]; exact hP
              have hD : va_D A (rdW ad cd T s_57) := by rw [e_57]; exact hD
              refine lv_if_ne (tgt := 65) hx hb d_Reader_readList_60 (by decide) (fun c_60 => ?_) (fun c_60 => ?_)
              · skip
                have c_60 : ((fSkip T s_30 44).1) = true := bI_1 c_60
                refine lv_aload_n hx hb d_Reader_readList_65 rfl (lv_at hl 1 rfl) ?_
                refine lv_bipush (v := 32) hx hb d_Reader_readList_66 (by decide) ?_
                refine hx_Vz (wr := []) (As := [.int 32]) (rest := []) hI (c_Reader_take hT s_57 32) (cw_V (C := "HeadDesk$Reader") 1 hts m_2_93 m_2_95 ms_7 m_1_2 m_2_96 (by decide +kernel) ⟨by decide, by decide⟩) hX hA hP hD hS [0, 1, 2, 3, 4, 5, 6, 7] [] rfl rfl (by decide) (by decide) (by decide) (va_recv hX.1 hP (ci := 1) (q0 := 0) rfl rfl) rfl hl.1 rfl (Nat.le_of_ble_eq_true rfl) d_Reader_readList_68 ⟨Nat.zero_le _, Nat.zero_le _⟩ (fun H locs hP hD hS => ?_)
                obtain ⟨s_68, e_68⟩ : ∃ z : RS, z = (fTake T s_57 32).2 := ⟨_, rfl⟩
                have hP : va_P D vwCl (rdW ad cd T s_68) H := by rw [e_68]; exact hP
                have hD : va_D A (rdW ad cd T s_68) := by rw [e_68]; exact hD
                refine lv_if_ne (tgt := 76) hx hb d_Reader_readList_71 (by decide) (fun c_71 => ?_) (fun c_71 => ?_)
                · skip
                  have c_71 : ((fTake T s_57 32).1) = true := bI_1 c_71
                  refine lv_iinc (v := nI (j + 1)) (lv' := [(1, .int (nI (j + 1))), (0, .ref (ad 0))]) hx hb d_Reader_readList_76 hl (k := 0) rfl (by rw [nI_succ]; rfl) (by decide) rfl (fun ls hl => ?_)
                  refine lv_goto (tgt := 2) hx hb d_Reader_readList_79 (by decide) ?_
                  exact ih (j + 1) s_68 H locs ls (by omega)  (by first | (rw [hF]; ((try simp only [fLisL]) <;> simp only [fLisL, lisE, if_neg c_6, c_15, c_26, c_60, c_71, bnd_t c_15, bnd_f c_26, bnd_t c_60, bnd_t c_71, ← e_12, ← e_23, ← e_30, ← e_57, ← e_68, fStop, if_true, if_false, Bool.false_eq_true, ↓reduceIte]); done) | (rw [hF]; ((try simp only [fLisL]) <;> simp only [fLisL, lisE, if_neg c_6, c_15, c_26, c_60, c_71, bnd_t c_15, bnd_f c_26, bnd_t c_60, bnd_t c_71, ← e_12, ← e_23, ← e_30, ← e_57, ← e_68, fStop, if_true, if_false, Bool.false_eq_true, ↓reduceIte]); with_reducible rfl) | (rw [hF]; ((try simp only [fLisL]) <;> simp only [fLisL, lisE, if_neg c_6, c_15, c_26, c_60, c_71, bnd_t c_15, bnd_f c_26, bnd_t c_60, bnd_t c_71, ← e_12, ← e_23, ← e_30, ← e_57, ← e_68, fStop, if_true, if_false, Bool.false_eq_true, ↓reduceIte]); rw [e_68])) hP hD hS (lv_sub hl [0, 1] rfl)
                · skip
                  have c_71 : ((fTake T s_57 32).1) = false := bI_0 c_71
                  refine lv_iconst (v := 0) hx hb d_Reader_readList_74 (by decide) ?_
                  exact hret H locs s_68 false _ _ hP hD hS (pr2 (by first | (rw [hF]; ((try simp only [fLisL]) <;> simp only [fLisL, lisE, if_neg c_6, c_15, c_26, c_60, c_71, bnd_t c_15, bnd_f c_26, bnd_t c_60, bnd_f c_71, ← e_12, ← e_23, ← e_30, ← e_57, ← e_68, fStop, if_true, if_false, Bool.false_eq_true, ↓reduceIte]); done) | (rw [hF]; ((try simp only [fLisL]) <;> simp only [fLisL, lisE, if_neg c_6, c_15, c_26, c_60, c_71, bnd_t c_15, bnd_f c_26, bnd_t c_60, bnd_f c_71, ← e_12, ← e_23, ← e_30, ← e_57, ← e_68, fStop, if_true, if_false, Bool.false_eq_true, ↓reduceIte]); with_reducible rfl) | (rw [hF]; ((try simp only [fLisL]) <;> simp only [fLisL, lisE, if_neg c_6, c_15, c_26, c_60, c_71, bnd_t c_15, bnd_f c_26, bnd_t c_60, bnd_f c_71, ← e_12, ← e_23, ← e_30, ← e_57, ← e_68, fStop, if_true, if_false, Bool.false_eq_true, ↓reduceIte]); rw [e_68]))) d_Reader_readList_75
              · skip
                have c_60 : ((fSkip T s_30 44).1) = false := bI_0 c_60
                refine lv_iconst (v := 1) hx hb d_Reader_readList_63 (by decide) ?_
                exact hret H locs s_57 true _ _ hP hD hS (pr2 (by first | (rw [hF]; ((try simp only [fLisL]) <;> simp only [fLisL, lisE, if_neg c_6, c_15, c_26, c_60, bnd_t c_15, bnd_f c_26, bnd_f c_60, ← e_12, ← e_23, ← e_30, ← e_57, fStop, if_true, if_false, Bool.false_eq_true, ↓reduceIte]); done) | (rw [hF]; ((try simp only [fLisL]) <;> simp only [fLisL, lisE, if_neg c_6, c_15, c_26, c_60, bnd_t c_15, bnd_f c_26, bnd_f c_60, ← e_12, ← e_23, ← e_30, ← e_57, fStop, if_true, if_false, Bool.false_eq_true, ↓reduceIte]); with_reducible rfl) | (rw [hF]; ((try simp only [fLisL]) <;> simp only [fLisL, lisE, if_neg c_6, c_15, c_26, c_60, bnd_t c_15, bnd_f c_26, bnd_f c_60, ← e_12, ← e_23, ← e_30, ← e_57, fStop, if_true, if_false, Bool.false_eq_true, ↓reduceIte]); rw [e_57]))) d_Reader_readList_64
          · skip
            have c_15 : ((fLet T s1 30).1) = false := bI_0 c_15
            refine lv_iconst (v := 0) hx hb d_Reader_readList_18 (by decide) ?_
            exact hret H locs s_12 false _ _ hP hD hS (pr2 (by first | (rw [hF]; ((try simp only [fLisL]) <;> simp only [fLisL, lisE, if_neg c_6, c_15, bnd_f c_15, ← e_12, fStop, if_true, if_false, Bool.false_eq_true, ↓reduceIte]); done) | (rw [hF]; ((try simp only [fLisL]) <;> simp only [fLisL, lisE, if_neg c_6, c_15, bnd_f c_15, ← e_12, fStop, if_true, if_false, Bool.false_eq_true, ↓reduceIte]); with_reducible rfl) | (rw [hF]; ((try simp only [fLisL]) <;> simp only [fLisL, lisE, if_neg c_6, c_15, bnd_f c_15, ← e_12, fStop, if_true, if_false, Bool.false_eq_true, ↓reduceIte]); rw [e_12]))) d_Reader_readList_19
    exact loop2 300 0 st H locs ls (by omega) rfl hP hD hS (lv_sub hl [0, 1] rfl)
  rw [hH, hlo] at goal
  exact goal
set_option maxHeartbeats 4000000 in
set_option maxRecDepth 100000 in
theorem c_Reader_readValue (hT : T.2 ≤ 300) (st : RS)  : hx_Mz l D (tyH cd) adK adV tF (rdW ad cd T) y_Reader_readValue w_Reader_readValue (rmD 8) [.ref (ad 0)] st ((fVal T st).1) ((fVal T st).2) := by
  refine hx_Mz.of (cc := b_Reader_readValue) (maxL := 1) (by decide) rfl (Nat.le_of_ble_eq_true rfl) ?_
  intro p e s m below meth c A Q ls hI hX hA hP hD hS hl hret
  obtain ⟨hx, hb, hml, hown, hts⟩ := id hI
  have hts : ∀ w ∈ aw, w.before ([.ref (ad 0)] : List Value).toArray s = true := fun w h => hts w (List.mem_cons_of_mem _ h)
  have hown : s.vm.findClass "HeadDesk$Reader" = some m.cls := hown
  have hI : hx_In p s m ([.ref (ad 0)] : List Value).toArray c b_Reader_readValue 1 "HeadDesk$Reader" aw := ⟨hx, hb, hml, hown, hts⟩
  have hP : va_P D vwCl (rdW ad cd T st) s.heap := hP
  obtain ⟨H, hH⟩ : ∃ H, H = s.heap := ⟨_, rfl⟩
  obtain ⟨locs, hlo⟩ : ∃ locs : List Loc, locs = [] := ⟨_, rfl⟩
  have hS : va_S A s.heap H locs := by rw [hH, hlo]; exact hS
  have hP : va_P D vwCl (rdW ad cd T st) H := by rw [hH]; exact hP
  have hl : lv_has ls 1 [(0, .ref (ad 0))] := hl
  have goal : W p l e (rmD 8) s m ([.ref (ad 0)] : List Value).toArray below meth c H locs 0 0 Q (F0 m 0 ls []) := by
    refine lv_aload_n hx hb d_Reader_readValue_0 rfl (lv_at hl 0 rfl) ?_
    refine lv_bipush (v := 32) hx hb d_Reader_readValue_1 (by decide) ?_
    refine hx_Vz (wr := []) (As := [.int 32]) (rest := []) hI (c_Reader_skip hT st 32) (cw_V (C := "HeadDesk$Reader") 1 hts m_2_108 m_2_110 ms_10 m_1_2 m_2_111 (by decide +kernel) ⟨by decide, by decide⟩) hX hA hP hD hS [0, 1, 2, 3, 4, 5, 6, 7] [] rfl rfl (by decide) (by decide) (by decide) (va_recv hX.1 hP (ci := 1) (q0 := 0) rfl rfl) rfl hl.1 rfl (Nat.le_of_ble_eq_true rfl) d_Reader_readValue_3 ⟨Nat.zero_le _, Nat.zero_le _⟩ (fun H locs hP hD hS => ?_)
    obtain ⟨s_3, e_3⟩ : ∃ z : RS, z = (fSkip T st 32).2 := ⟨_, rfl⟩
    have hP : va_P D vwCl (rdW ad cd T s_3) H := by rw [e_3]; exact hP
    have hD : va_D A (rdW ad cd T s_3) := by rw [e_3]; exact hD
    refine lv_pop hx hb d_Reader_readValue_6 rfl ?_
    refine lv_aload_n hx hb d_Reader_readValue_7 rfl (lv_at hl 0 rfl) ?_
    refine va_ldcS hx hb hown (hX.2.2.2.2.2.1 _ _ _ _ st_4) d_Reader_readValue_8 ?_
    refine hx_Vz (wr := []) (As := [.ref (adK 4)]) (rest := []) hI (c_Reader_isWordL hT s_3 (by decide) sw_4) (cw_V (C := "HeadDesk$Reader") 1 hts m_2_136 m_2_138 ms_16 m_1_2 m_2_139 (by decide +kernel) ⟨by decide, by decide⟩) hX hA hP hD hS [0, 1, 2, 3, 4, 5, 6, 7] [] rfl rfl (by decide) (by decide) (by decide) (va_recv hX.1 hP (ci := 1) (q0 := 0) rfl rfl) rfl hl.1 rfl (Nat.le_of_ble_eq_true rfl) d_Reader_readValue_10 ⟨Nat.zero_le _, Nat.zero_le _⟩ (fun H locs hP hD hS => ?_)
    have hP : va_P D vwCl (rdW ad cd T s_3) H := hP
    have hD : va_D A (rdW ad cd T s_3) := hD
    refine lv_if_eq (tgt := 21) hx hb d_Reader_readValue_13 (by decide) (fun c_13 => ?_) (fun c_13 => ?_)
    · skip
      have c_13 : (fIsW T s_3 t_cache_control) = false := bI_0 c_13
      refine lv_aload_n hx hb d_Reader_readValue_21 rfl (lv_at hl 0 rfl) ?_
      refine va_get (D := D) (ci := 1) (v := .int (rKd s_3)) (C := "HeadDesk$Reader") (T := F_Reader) (N := 11) hx hb hts a_Reader hown hX.1 hP 0 rfl rfl 5 (by decide) (hts _ m_1_66) (fun _ h9 => h9) rfl d_Reader_readValue_22 ?_
      refine lv_if_ne (tgt := 42) hx hb d_Reader_readValue_25 (by decide) (fun c_25 => ?_) (fun c_25 => ?_)
      · skip
        have c_25 : ¬ (rKd s_3 = 0) := c_25
        refine lv_aload_n hx hb d_Reader_readValue_42 rfl (lv_at hl 0 rfl) ?_
        refine va_get (D := D) (ci := 1) (v := .int (rKd s_3)) (C := "HeadDesk$Reader") (T := F_Reader) (N := 11) hx hb hts a_Reader hown hX.1 hP 0 rfl rfl 5 (by decide) (hts _ m_1_66) (fun _ h9 => h9) rfl d_Reader_readValue_43 ?_
        refine lv_if_ne (tgt := 63) hx hb d_Reader_readValue_46 (by decide) (fun c_46 => ?_) (fun c_46 => ?_)
        · skip
          have c_46 : ¬ (rKd s_3 = 0) := c_46
          refine lv_aload_n hx hb d_Reader_readValue_63 rfl (lv_at hl 0 rfl) ?_
          refine va_get (D := D) (ci := 1) (v := .int (rKd s_3)) (C := "HeadDesk$Reader") (T := F_Reader) (N := 11) hx hb hts a_Reader hown hX.1 hP 0 rfl rfl 5 (by decide) (hts _ m_1_66) (fun _ h9 => h9) rfl d_Reader_readValue_64 ?_
          refine lv_iconst (v := 1) hx hb d_Reader_readValue_67 (by decide) ?_
          refine lv_icmp_ne (tgt := 85) hx hb d_Reader_readValue_68 (by decide) (fun c_68 => ?_) (fun c_68 => ?_)
          · skip
            have c_68 : ¬ (rKd s_3 = 1) := c_68
            refine lv_aload_n hx hb d_Reader_readValue_85 rfl (lv_at hl 0 rfl) ?_
            refine va_get (D := D) (ci := 1) (v := .int (rKd s_3)) (C := "HeadDesk$Reader") (T := F_Reader) (N := 11) hx hb hts a_Reader hown hX.1 hP 0 rfl rfl 5 (by decide) (hts _ m_1_66) (fun _ h9 => h9) rfl d_Reader_readValue_86 ?_
            refine lv_iconst (v := 1) hx hb d_Reader_readValue_89 (by decide) ?_
            refine lv_icmp_ne (tgt := 107) hx hb d_Reader_readValue_90 (by decide) (fun c_90 => ?_) (fun c_90 => ?_)
            · skip
              have c_90 : ¬ (rKd s_3 = 1) := c_90
              refine lv_aload_n hx hb d_Reader_readValue_107 rfl (lv_at hl 0 rfl) ?_
              refine hx_Vz (wr := []) (As := []) (rest := []) hI (c_Reader_readAnything hT s_3 ) (cw_V (C := "HeadDesk$Reader") 0 hts m_2_194 m_2_196 ms_24 m_1_2 m_2_197 (by decide +kernel) ⟨by decide, by decide⟩) hX hA hP hD hS [0, 1, 2, 3, 4, 5, 6, 7] [] rfl rfl (by decide) (by decide) (by decide) (va_recv hX.1 hP (ci := 1) (q0 := 0) rfl rfl) rfl hl.1 rfl (Nat.le_of_ble_eq_true rfl) d_Reader_readValue_108 ⟨Nat.zero_le _, Nat.zero_le _⟩ (fun H locs hP hD hS => ?_)
              obtain ⟨s_108, e_108⟩ : ∃ z : RS, z = fAnyL T 300 s_3 := ⟨_, rfl⟩
              have hP : va_P D vwCl (rdW ad cd T s_108) H := by rw [e_108]; exact hP
              have hD : va_D A (rdW ad cd T s_108) := by rw [e_108]; exact hD
              exact hret H locs s_108 true _ _ hP hD hS (pr2 (by first | (simp only [fVal, fValE, c_13, if_neg c_25, if_neg c_46, if_neg c_68, if_neg c_90, ← e_3, ← e_108, fStop, if_true, if_false, Bool.false_eq_true, ↓reduceIte]; done) | (simp only [fVal, fValE, c_13, if_neg c_25, if_neg c_46, if_neg c_68, if_neg c_90, ← e_3, ← e_108, fStop, if_true, if_false, Bool.false_eq_true, ↓reduceIte]; with_reducible rfl) | (simp only [fVal, fValE, c_13, if_neg c_25, if_neg c_46, if_neg c_68, if_neg c_90, ← e_3, ← e_108, fStop, if_true, if_false, Bool.false_eq_true, ↓reduceIte]; rw [e_108]))) d_Reader_readValue_111
            · skip
              exact absurd c_90 c_68
          · skip
            have c_68 : (rKd s_3 = 1) := c_68
            refine lv_aload_n hx hb d_Reader_readValue_71 rfl (lv_at hl 0 rfl) ?_
            refine va_ldcS hx hb hown (hX.2.2.2.2.2.1 _ _ _ _ st_16) d_Reader_readValue_72 ?_
            refine hx_Vz (wr := []) (As := [.ref (adK 16)]) (rest := []) hI (c_Reader_isWordL hT s_3 (by decide) sw_16) (cw_V (C := "HeadDesk$Reader") 1 hts m_2_136 m_2_138 ms_16 m_1_2 m_2_139 (by decide +kernel) ⟨by decide, by decide⟩) hX hA hP hD hS [0, 1, 2, 3, 4, 5, 6, 7] [] rfl rfl (by decide) (by decide) (by decide) (va_recv hX.1 hP (ci := 1) (q0 := 0) rfl rfl) rfl hl.1 rfl (Nat.le_of_ble_eq_true rfl) d_Reader_readValue_74 ⟨Nat.zero_le _, Nat.zero_le _⟩ (fun H locs hP hD hS => ?_)
            have hP : va_P D vwCl (rdW ad cd T s_3) H := hP
            have hD : va_D A (rdW ad cd T s_3) := hD
            refine lv_if_eq (tgt := 85) hx hb d_Reader_readValue_77 (by decide) (fun c_77 => ?_) (fun c_77 => ?_)
            · skip
              have c_77 : (fIsW T s_3 t_length) = false := bI_0 c_77
              refine lv_aload_n hx hb d_Reader_readValue_85 rfl (lv_at hl 0 rfl) ?_
              refine va_get (D := D) (ci := 1) (v := .int (rKd s_3)) (C := "HeadDesk$Reader") (T := F_Reader) (N := 11) hx hb hts a_Reader hown hX.1 hP 0 rfl rfl 5 (by decide) (hts _ m_1_66) (fun _ h9 => h9) rfl d_Reader_readValue_86 ?_
              refine lv_iconst (v := 1) hx hb d_Reader_readValue_89 (by decide) ?_
              refine lv_icmp_ne (tgt := 107) hx hb d_Reader_readValue_90 (by decide) (fun c_90 => ?_) (fun c_90 => ?_)
              · skip
                exact absurd c_68 c_90
              · skip
                have c_90 : (rKd s_3 = 1) := c_90
                refine lv_aload_n hx hb d_Reader_readValue_93 rfl (lv_at hl 0 rfl) ?_
                refine va_ldcS hx hb hown (hX.2.2.2.2.2.1 _ _ _ _ st_17) d_Reader_readValue_94 ?_
                refine hx_Vz (wr := []) (As := [.ref (adK 17)]) (rest := []) hI (c_Reader_isWordL hT s_3 (by decide) sw_17) (cw_V (C := "HeadDesk$Reader") 1 hts m_2_136 m_2_138 ms_16 m_1_2 m_2_139 (by decide +kernel) ⟨by decide, by decide⟩) hX hA hP hD hS [0, 1, 2, 3, 4, 5, 6, 7] [] rfl rfl (by decide) (by decide) (by decide) (va_recv hX.1 hP (ci := 1) (q0 := 0) rfl rfl) rfl hl.1 rfl (Nat.le_of_ble_eq_true rfl) d_Reader_readValue_96 ⟨Nat.zero_le _, Nat.zero_le _⟩ (fun H locs hP hD hS => ?_)
                have hP : va_P D vwCl (rdW ad cd T s_3) H := hP
                have hD : va_D A (rdW ad cd T s_3) := hD
                refine lv_if_eq (tgt := 107) hx hb d_Reader_readValue_99 (by decide) (fun c_99 => ?_) (fun c_99 => ?_)
                · skip
                  have c_99 : (fIsW T s_3 t_keys) = false := bI_0 c_99
                  refine lv_aload_n hx hb d_Reader_readValue_107 rfl (lv_at hl 0 rfl) ?_
                  refine hx_Vz (wr := []) (As := []) (rest := []) hI (c_Reader_readAnything hT s_3 ) (cw_V (C := "HeadDesk$Reader") 0 hts m_2_194 m_2_196 ms_24 m_1_2 m_2_197 (by decide +kernel) ⟨by decide, by decide⟩) hX hA hP hD hS [0, 1, 2, 3, 4, 5, 6, 7] [] rfl rfl (by decide) (by decide) (by decide) (va_recv hX.1 hP (ci := 1) (q0 := 0) rfl rfl) rfl hl.1 rfl (Nat.le_of_ble_eq_true rfl) d_Reader_readValue_108 ⟨Nat.zero_le _, Nat.zero_le _⟩ (fun H locs hP hD hS => ?_)
                  obtain ⟨s_108, e_108⟩ : ∃ z : RS, z = fAnyL T 300 s_3 := ⟨_, rfl⟩
                  have hP : va_P D vwCl (rdW ad cd T s_108) H := by rw [e_108]; exact hP
                  have hD : va_D A (rdW ad cd T s_108) := by rw [e_108]; exact hD
                  exact hret H locs s_108 true _ _ hP hD hS (pr2 (by first | (simp only [fVal, fValE, c_13, if_neg c_25, if_neg c_46, if_pos c_68, c_77, if_pos c_90, c_99, ← e_3, ← e_108, fStop, if_true, if_false, Bool.false_eq_true, ↓reduceIte]; done) | (simp only [fVal, fValE, c_13, if_neg c_25, if_neg c_46, if_pos c_68, c_77, if_pos c_90, c_99, ← e_3, ← e_108, fStop, if_true, if_false, Bool.false_eq_true, ↓reduceIte]; with_reducible rfl) | (simp only [fVal, fValE, c_13, if_neg c_25, if_neg c_46, if_pos c_68, c_77, if_pos c_90, c_99, ← e_3, ← e_108, fStop, if_true, if_false, Bool.false_eq_true, ↓reduceIte]; rw [e_108]))) d_Reader_readValue_111
                · skip
                  have c_99 : (fIsW T s_3 t_keys) = true := bI_1 c_99
                  refine lv_aload_n hx hb d_Reader_readValue_102 rfl (lv_at hl 0 rfl) ?_
                  refine hx_Vz (wr := []) (As := []) (rest := []) hI (c_Reader_readKeys hT s_3 ) (cw_V (C := "HeadDesk$Reader") 0 hts m_2_186 m_2_188 ms_23 m_1_2 m_2_189 (by decide +kernel) ⟨by decide, by decide⟩) hX hA hP hD hS [0, 1, 2, 3, 4, 5, 6, 7] [] rfl rfl (by decide) (by decide) (by decide) (va_recv hX.1 hP (ci := 1) (q0 := 0) rfl rfl) rfl hl.1 rfl (Nat.le_of_ble_eq_true rfl) d_Reader_readValue_103 ⟨Nat.zero_le _, Nat.zero_le _⟩ (fun H locs hP hD hS => ?_)
                  obtain ⟨s_103, e_103⟩ : ∃ z : RS, z = (fKeyL T 8 s_3).2 := ⟨_, rfl⟩
                  have hP : va_P D vwCl (rdW ad cd T s_103) H := by rw [e_103]; exact hP
                  have hD : va_D A (rdW ad cd T s_103) := by rw [e_103]; exact hD
                  exact hret H locs s_103 ((fKeyL T 8 s_3).1) _ _ hP hD hS (pr2 (by first | (simp only [fVal, fValE, c_13, if_neg c_25, if_neg c_46, if_pos c_68, c_77, if_pos c_90, c_99, ← e_3, ← e_103, fStop, if_true, if_false, Bool.false_eq_true, ↓reduceIte]; done) | (simp only [fVal, fValE, c_13, if_neg c_25, if_neg c_46, if_pos c_68, c_77, if_pos c_90, c_99, ← e_3, ← e_103, fStop, if_true, if_false, Bool.false_eq_true, ↓reduceIte]; with_reducible rfl) | (simp only [fVal, fValE, c_13, if_neg c_25, if_neg c_46, if_pos c_68, c_77, if_pos c_90, c_99, ← e_3, ← e_103, fStop, if_true, if_false, Bool.false_eq_true, ↓reduceIte]; rw [e_103]))) d_Reader_readValue_106
            · skip
              have c_77 : (fIsW T s_3 t_length) = true := bI_1 c_77
              refine lv_aload_n hx hb d_Reader_readValue_80 rfl (lv_at hl 0 rfl) ?_
              refine hx_Vz (wr := []) (As := []) (rest := []) hI (c_Reader_readLength hT s_3 ) (cw_V (C := "HeadDesk$Reader") 0 hts m_2_181 m_2_183 ms_22 m_1_2 m_2_184 (by decide +kernel) ⟨by decide, by decide⟩) hX hA hP hD hS [0, 1, 2, 3, 4, 5, 6, 7] [] rfl rfl (by decide) (by decide) (by decide) (va_recv hX.1 hP (ci := 1) (q0 := 0) rfl rfl) rfl hl.1 rfl (Nat.le_of_ble_eq_true rfl) d_Reader_readValue_81 ⟨Nat.zero_le _, Nat.zero_le _⟩ (fun H locs hP hD hS => ?_)
              obtain ⟨s_81, e_81⟩ : ∃ z : RS, z = (fLen T s_3).2 := ⟨_, rfl⟩
              have hP : va_P D vwCl (rdW ad cd T s_81) H := by rw [e_81]; exact hP
              have hD : va_D A (rdW ad cd T s_81) := by rw [e_81]; exact hD
              exact hret H locs s_81 ((fLen T s_3).1) _ _ hP hD hS (pr2 (by first | (simp only [fVal, fValE, c_13, if_neg c_25, if_neg c_46, if_pos c_68, c_77, ← e_3, ← e_81, fStop, if_true, if_false, Bool.false_eq_true, ↓reduceIte]; done) | (simp only [fVal, fValE, c_13, if_neg c_25, if_neg c_46, if_pos c_68, c_77, ← e_3, ← e_81, fStop, if_true, if_false, Bool.false_eq_true, ↓reduceIte]; with_reducible rfl) | (simp only [fVal, fValE, c_13, if_neg c_25, if_neg c_46, if_pos c_68, c_77, ← e_3, ← e_81, fStop, if_true, if_false, Bool.false_eq_true, ↓reduceIte]; rw [e_81]))) d_Reader_readValue_84
        · skip
          exact absurd c_46 c_25
      · skip
        have c_25 : (rKd s_3 = 0) := c_25
        refine lv_aload_n hx hb d_Reader_readValue_28 rfl (lv_at hl 0 rfl) ?_
        refine va_ldcS hx hb hown (hX.2.2.2.2.2.1 _ _ _ _ st_13) d_Reader_readValue_29 ?_
        refine hx_Vz (wr := []) (As := [.ref (adK 13)]) (rest := []) hI (c_Reader_isWordL hT s_3 (by decide) sw_13) (cw_V (C := "HeadDesk$Reader") 1 hts m_2_136 m_2_138 ms_16 m_1_2 m_2_139 (by decide +kernel) ⟨by decide, by decide⟩) hX hA hP hD hS [0, 1, 2, 3, 4, 5, 6, 7] [] rfl rfl (by decide) (by decide) (by decide) (va_recv hX.1 hP (ci := 1) (q0 := 0) rfl rfl) rfl hl.1 rfl (Nat.le_of_ble_eq_true rfl) d_Reader_readValue_31 ⟨Nat.zero_le _, Nat.zero_le _⟩ (fun H locs hP hD hS => ?_)
        have hP : va_P D vwCl (rdW ad cd T s_3) H := hP
        have hD : va_D A (rdW ad cd T s_3) := hD
        refine lv_if_eq (tgt := 42) hx hb d_Reader_readValue_34 (by decide) (fun c_34 => ?_) (fun c_34 => ?_)
        · skip
          have c_34 : (fIsW T s_3 t_range) = false := bI_0 c_34
          refine lv_aload_n hx hb d_Reader_readValue_42 rfl (lv_at hl 0 rfl) ?_
          refine va_get (D := D) (ci := 1) (v := .int (rKd s_3)) (C := "HeadDesk$Reader") (T := F_Reader) (N := 11) hx hb hts a_Reader hown hX.1 hP 0 rfl rfl 5 (by decide) (hts _ m_1_66) (fun _ h9 => h9) rfl d_Reader_readValue_43 ?_
          refine lv_if_ne (tgt := 63) hx hb d_Reader_readValue_46 (by decide) (fun c_46 => ?_) (fun c_46 => ?_)
          · skip
            exact absurd c_25 c_46
          · skip
            have c_46 : (rKd s_3 = 0) := c_46
            refine lv_aload_n hx hb d_Reader_readValue_49 rfl (lv_at hl 0 rfl) ?_
            refine va_ldcS hx hb hown (hX.2.2.2.2.2.1 _ _ _ _ st_15) d_Reader_readValue_50 ?_
            refine hx_Vz (wr := []) (As := [.ref (adK 15)]) (rest := []) hI (c_Reader_isWordL hT s_3 (by decide) sw_15) (cw_V (C := "HeadDesk$Reader") 1 hts m_2_136 m_2_138 ms_16 m_1_2 m_2_139 (by decide +kernel) ⟨by decide, by decide⟩) hX hA hP hD hS [0, 1, 2, 3, 4, 5, 6, 7] [] rfl rfl (by decide) (by decide) (by decide) (va_recv hX.1 hP (ci := 1) (q0 := 0) rfl rfl) rfl hl.1 rfl (Nat.le_of_ble_eq_true rfl) d_Reader_readValue_52 ⟨Nat.zero_le _, Nat.zero_le _⟩ (fun H locs hP hD hS => ?_)
            have hP : va_P D vwCl (rdW ad cd T s_3) H := hP
            have hD : va_D A (rdW ad cd T s_3) := hD
            refine lv_if_eq (tgt := 63) hx hb d_Reader_readValue_55 (by decide) (fun c_55 => ?_) (fun c_55 => ?_)
            · skip
              have c_55 : (fIsW T s_3 t_if_none_match) = false := bI_0 c_55
              refine lv_aload_n hx hb d_Reader_readValue_63 rfl (lv_at hl 0 rfl) ?_
              refine va_get (D := D) (ci := 1) (v := .int (rKd s_3)) (C := "HeadDesk$Reader") (T := F_Reader) (N := 11) hx hb hts a_Reader hown hX.1 hP 0 rfl rfl 5 (by decide) (hts _ m_1_66) (fun _ h9 => h9) rfl d_Reader_readValue_64 ?_
              refine lv_iconst (v := 1) hx hb d_Reader_readValue_67 (by decide) ?_
              refine lv_icmp_ne (tgt := 85) hx hb d_Reader_readValue_68 (by decide) (fun c_68 => ?_) (fun c_68 => ?_)
              · skip
                have c_68 : ¬ (rKd s_3 = 1) := c_68
                refine lv_aload_n hx hb d_Reader_readValue_85 rfl (lv_at hl 0 rfl) ?_
                refine va_get (D := D) (ci := 1) (v := .int (rKd s_3)) (C := "HeadDesk$Reader") (T := F_Reader) (N := 11) hx hb hts a_Reader hown hX.1 hP 0 rfl rfl 5 (by decide) (hts _ m_1_66) (fun _ h9 => h9) rfl d_Reader_readValue_86 ?_
                refine lv_iconst (v := 1) hx hb d_Reader_readValue_89 (by decide) ?_
                refine lv_icmp_ne (tgt := 107) hx hb d_Reader_readValue_90 (by decide) (fun c_90 => ?_) (fun c_90 => ?_)
                · skip
                  have c_90 : ¬ (rKd s_3 = 1) := c_90
                  refine lv_aload_n hx hb d_Reader_readValue_107 rfl (lv_at hl 0 rfl) ?_
                  refine hx_Vz (wr := []) (As := []) (rest := []) hI (c_Reader_readAnything hT s_3 ) (cw_V (C := "HeadDesk$Reader") 0 hts m_2_194 m_2_196 ms_24 m_1_2 m_2_197 (by decide +kernel) ⟨by decide, by decide⟩) hX hA hP hD hS [0, 1, 2, 3, 4, 5, 6, 7] [] rfl rfl (by decide) (by decide) (by decide) (va_recv hX.1 hP (ci := 1) (q0 := 0) rfl rfl) rfl hl.1 rfl (Nat.le_of_ble_eq_true rfl) d_Reader_readValue_108 ⟨Nat.zero_le _, Nat.zero_le _⟩ (fun H locs hP hD hS => ?_)
                  obtain ⟨s_108, e_108⟩ : ∃ z : RS, z = fAnyL T 300 s_3 := ⟨_, rfl⟩
                  have hP : va_P D vwCl (rdW ad cd T s_108) H := by rw [e_108]; exact hP
                  have hD : va_D A (rdW ad cd T s_108) := by rw [e_108]; exact hD
                  exact hret H locs s_108 true _ _ hP hD hS (pr2 (by first | (simp only [fVal, fValE, c_13, if_pos c_25, c_34, if_pos c_46, c_55, if_neg c_68, if_neg c_90, ← e_3, ← e_108, fStop, if_true, if_false, Bool.false_eq_true, ↓reduceIte]; done) | (simp only [fVal, fValE, c_13, if_pos c_25, c_34, if_pos c_46, c_55, if_neg c_68, if_neg c_90, ← e_3, ← e_108, fStop, if_true, if_false, Bool.false_eq_true, ↓reduceIte]; with_reducible rfl) | (simp only [fVal, fValE, c_13, if_pos c_25, c_34, if_pos c_46, c_55, if_neg c_68, if_neg c_90, ← e_3, ← e_108, fStop, if_true, if_false, Bool.false_eq_true, ↓reduceIte]; rw [e_108]))) d_Reader_readValue_111
                · skip
                  exact absurd (c_46.symm.trans c_90) (by decide)
              · skip
                exact absurd (c_46.symm.trans c_68) (by decide)
            · skip
              have c_55 : (fIsW T s_3 t_if_none_match) = true := bI_1 c_55
              refine lv_aload_n hx hb d_Reader_readValue_58 rfl (lv_at hl 0 rfl) ?_
              refine hx_Vz (wr := []) (As := []) (rest := []) hI (c_Reader_readVersions hT s_3 ) (cw_V (C := "HeadDesk$Reader") 0 hts m_2_172 m_2_174 ms_21 m_1_2 m_2_175 (by decide +kernel) ⟨by decide, by decide⟩) hX hA hP hD hS [0, 1, 2, 3, 4, 5, 6, 7] [] rfl rfl (by decide) (by decide) (by decide) (va_recv hX.1 hP (ci := 1) (q0 := 0) rfl rfl) rfl hl.1 rfl (Nat.le_of_ble_eq_true rfl) d_Reader_readValue_59 ⟨Nat.zero_le _, Nat.zero_le _⟩ (fun H locs hP hD hS => ?_)
              obtain ⟨s_59, e_59⟩ : ∃ z : RS, z = (fVer T s_3).2 := ⟨_, rfl⟩
              have hP : va_P D vwCl (rdW ad cd T s_59) H := by rw [e_59]; exact hP
              have hD : va_D A (rdW ad cd T s_59) := by rw [e_59]; exact hD
              exact hret H locs s_59 ((fVer T s_3).1) _ _ hP hD hS (pr2 (by first | (simp only [fVal, fValE, c_13, if_pos c_25, c_34, if_pos c_46, c_55, ← e_3, ← e_59, fStop, if_true, if_false, Bool.false_eq_true, ↓reduceIte]; done) | (simp only [fVal, fValE, c_13, if_pos c_25, c_34, if_pos c_46, c_55, ← e_3, ← e_59, fStop, if_true, if_false, Bool.false_eq_true, ↓reduceIte]; with_reducible rfl) | (simp only [fVal, fValE, c_13, if_pos c_25, c_34, if_pos c_46, c_55, ← e_3, ← e_59, fStop, if_true, if_false, Bool.false_eq_true, ↓reduceIte]; rw [e_59]))) d_Reader_readValue_62
        · skip
          have c_34 : (fIsW T s_3 t_range) = true := bI_1 c_34
          refine lv_aload_n hx hb d_Reader_readValue_37 rfl (lv_at hl 0 rfl) ?_
          refine hx_Vz (wr := []) (As := []) (rest := []) hI (c_Reader_readRange hT s_3 ) (cw_V (C := "HeadDesk$Reader") 0 hts m_2_162 m_2_164 ms_20 m_1_2 m_2_165 (by decide +kernel) ⟨by decide, by decide⟩) hX hA hP hD hS [0, 1, 2, 3, 4, 5, 6, 7] [] rfl rfl (by decide) (by decide) (by decide) (va_recv hX.1 hP (ci := 1) (q0 := 0) rfl rfl) rfl hl.1 rfl (Nat.le_of_ble_eq_true rfl) d_Reader_readValue_38 ⟨Nat.zero_le _, Nat.zero_le _⟩ (fun H locs hP hD hS => ?_)
          obtain ⟨s_38, e_38⟩ : ∃ z : RS, z = (fRng T s_3 t_bytes).2 := ⟨_, rfl⟩
          have hP : va_P D vwCl (rdW ad cd T s_38) H := by rw [e_38]; exact hP
          have hD : va_D A (rdW ad cd T s_38) := by rw [e_38]; exact hD
          exact hret H locs s_38 ((fRng T s_3 t_bytes).1) _ _ hP hD hS (pr2 (by first | (simp only [fVal, fValE, c_13, if_pos c_25, c_34, ← e_3, ← e_38, fStop, if_true, if_false, Bool.false_eq_true, ↓reduceIte]; done) | (simp only [fVal, fValE, c_13, if_pos c_25, c_34, ← e_3, ← e_38, fStop, if_true, if_false, Bool.false_eq_true, ↓reduceIte]; with_reducible rfl) | (simp only [fVal, fValE, c_13, if_pos c_25, c_34, ← e_3, ← e_38, fStop, if_true, if_false, Bool.false_eq_true, ↓reduceIte]; rw [e_38]))) d_Reader_readValue_41
    · skip
      have c_13 : (fIsW T s_3 t_cache_control) = true := bI_1 c_13
      refine lv_aload_n hx hb d_Reader_readValue_16 rfl (lv_at hl 0 rfl) ?_
      refine hx_Vz (wr := []) (As := []) (rest := []) hI (c_Reader_readList hT s_3 ) (cw_V (C := "HeadDesk$Reader") 0 hts m_2_140 m_2_142 ms_17 m_1_2 m_2_143 (by decide +kernel) ⟨by decide, by decide⟩) hX hA hP hD hS [0, 1, 2, 3, 4, 5, 6, 7] [] rfl rfl (by decide) (by decide) (by decide) (va_recv hX.1 hP (ci := 1) (q0 := 0) rfl rfl) rfl hl.1 rfl (Nat.le_of_ble_eq_true rfl) d_Reader_readValue_17 ⟨Nat.zero_le _, Nat.zero_le _⟩ (fun H locs hP hD hS => ?_)
      obtain ⟨s_17, e_17⟩ : ∃ z : RS, z = (fLisL T 300 s_3).2 := ⟨_, rfl⟩
      have hP : va_P D vwCl (rdW ad cd T s_17) H := by rw [e_17]; exact hP
      have hD : va_D A (rdW ad cd T s_17) := by rw [e_17]; exact hD
      exact hret H locs s_17 ((fLisL T 300 s_3).1) _ _ hP hD hS (pr2 (by first | (simp only [fVal, fValE, c_13, ← e_3, ← e_17, fStop, if_true, if_false, Bool.false_eq_true, ↓reduceIte]; done) | (simp only [fVal, fValE, c_13, ← e_3, ← e_17, fStop, if_true, if_false, Bool.false_eq_true, ↓reduceIte]; with_reducible rfl) | (simp only [fVal, fValE, c_13, ← e_3, ← e_17, fStop, if_true, if_false, Bool.false_eq_true, ↓reduceIte]; rw [e_17]))) d_Reader_readValue_20
  rw [hH, hlo] at goal
  exact goal
