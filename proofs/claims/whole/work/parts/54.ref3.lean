variable {l : Launch} {D : va_G} {bd : Nat → Nat} {ce : Nat → ClassId} {adK adV : Nat → Nat} {tF : Nat} {tys : List (ClassId × FieldType)}

set_option maxHeartbeats 4000000 in
set_option maxRecDepth 100000 in
theorem c_Mod_range (st : MS) (hv : mInv st)  : hx_Mv l D (tyM ce) adK adV tF (mdW bd ce) y_Mod_range w_Mod_range (rmD 6) [.ref (bd 0)] st (mRng st) := by
  refine hx_Mv.of (cc := b_Mod_range) (maxL := 1) (by decide) rfl (Nat.le_of_ble_eq_true rfl) ?_
  intro p e s m below meth c A Q ls hI hX hA hP hD hS hl hret
  obtain ⟨hx, hb, hml, hown, hts⟩ := id hI
  have hts : ∀ w ∈ aw, w.before ([.ref (bd 0)] : List Value).toArray s = true := fun w h => hts w (List.mem_cons_of_mem _ h)
  have hown : s.vm.findClass "HeadDeskModel" = some m.cls := hown
  have hI : hx_In p s m ([.ref (bd 0)] : List Value).toArray c b_Mod_range 1 "HeadDeskModel" aw := ⟨hx, hb, hml, hown, hts⟩
  have hP : va_P D vwCl (mdW bd ce st) s.heap := hP
  obtain ⟨H, hH⟩ : ∃ H, H = s.heap := ⟨_, rfl⟩
  obtain ⟨locs, hlo⟩ : ∃ locs : List Loc, locs = [] := ⟨_, rfl⟩
  have hS : va_S A s.heap H locs := by rw [hH, hlo]; exact hS
  have hP : va_P D vwCl (mdW bd ce st) H := by rw [hH]; exact hP
  have hl : lv_has ls 1 [(0, .ref (bd 0))] := hl
  have goal : W p l e (rmD 6) s m ([.ref (bd 0)] : List Value).toArray below meth c H locs 0 0 Q (F0 m 0 ls []) := by
    refine lv_aload_n hx hb d_Mod_range_0 rfl (lv_at hl 0 rfl) ?_
    refine va_ldcS hx hb hown (hX.2.2.2.2.2.1 _ _ _ _ st_23) d_Mod_range_1 ?_
    refine hx_Vz (wr := []) (As := [.ref (adK 23)]) (rest := []) hI (c_Mod_expectWordL st hv (by decide) sw_23) (cw_V (C := "HeadDeskModel") 1 hts m_3_114 m_3_116 ms_27 m_1_5 m_3_117 (by decide +kernel) ⟨by decide, by decide⟩) hX hA hP hD hS [0, 1, 2, 3, 4, 5, 6] [] rfl rfl (by decide) (by decide) (by decide) (va_recv hX.1 hP (ci := 4) (q0 := 0) rfl rfl) rfl hl.1 rfl (Nat.le_of_ble_eq_true rfl) d_Mod_range_3 ⟨Nat.zero_le _, Nat.zero_le _⟩ (fun H locs hP hD hS => ?_)
    obtain ⟨s_3, e_3⟩ : ∃ z : MS, z = (mWord t_bytes st).2 := ⟨_, rfl⟩
    have i_3 : mInv s_3 := by rw [e_3]; exact inv_word _ _ (by decide) hv
    have hP : va_P D vwCl (mdW bd ce s_3) H := by rw [e_3]; exact hP
    have hD : va_D A (mdW bd ce s_3) := by rw [e_3]; exact hD
    refine lv_pop hx hb d_Mod_range_6 rfl ?_
    refine lv_aload_n hx hb d_Mod_range_7 rfl (lv_at hl 0 rfl) ?_
    refine va_get (D := D) (ci := 4) (v := .int (gR s_3 4)) (C := "HeadDeskModel") (T := F_Mod) (N := 38) hx hb hts a_Mod hown hX.1 hP 0 rfl rfl 5 (by decide) (hts _ m_2_222) (fun _ h9 => h9) rfl d_Mod_range_8 ?_
    refine lv_if_eq (tgt := 15) hx hb d_Mod_range_11 (by decide) (fun c_11 => ?_) (fun c_11 => ?_)
    · skip
      have c_11 : (gR s_3 4 = 0) := c_11
      refine lv_aload_n hx hb d_Mod_range_15 rfl (lv_at hl 0 rfl) ?_
      refine hx_Vi (wr := []) (As := []) (rest := []) hI (c_Mod_see s_3 i_3 ) (cw_V (C := "HeadDeskModel") 0 hts m_3_109 m_3_111 ms_26 m_1_5 m_3_112 (by decide +kernel) ⟨by decide, by decide⟩) hX hA hP hD hS [0, 1, 2, 3, 4, 5, 6] [] rfl rfl (by decide) (by decide) (by decide) (va_recv hX.1 hP (ci := 4) (q0 := 0) rfl rfl) rfl hl.1 rfl (Nat.le_of_ble_eq_true rfl) d_Mod_range_16 ⟨Nat.zero_le _, Nat.zero_le _⟩ (fun H locs hP hD hS => ?_)
      have hP : va_P D vwCl (mdW bd ce s_3) H := hP
      have hD : va_D A (mdW bd ce s_3) := hD
      refine lv_bipush (v := 45) hx hb d_Mod_range_19 (by decide) ?_
      refine lv_icmp_ne (tgt := 50) hx hb d_Mod_range_21 (by decide) (fun c_21 => ?_) (fun c_21 => ?_)
      · skip
        have c_21 : ¬ (mSee s_3 = 45) := c_21
        refine lv_aload_n hx hb d_Mod_range_50 rfl (lv_at hl 0 rfl) ?_
        refine lv_aload_n hx hb d_Mod_range_51 rfl (lv_at hl 0 rfl) ?_
        refine lv_ldc (v := 99999) hx hb hown (hts _ m_3_166) d_Mod_range_52 ?_
        refine hx_Vi (wr := []) (As := [.int 99999]) (rest := [.ref (bd 0)]) hI (c_Mod_number s_3 i_3 99999) (cw_V (C := "HeadDeskModel") 1 hts m_3_134 m_3_136 ms_31 m_1_5 m_3_137 (by decide +kernel) ⟨by decide, by decide⟩) hX hA hP hD hS [0, 1, 2, 3, 4, 5, 6] [] rfl rfl (by decide) (by decide) (by decide) (va_recv hX.1 hP (ci := 4) (q0 := 0) rfl rfl) rfl hl.1 rfl (Nat.le_of_ble_eq_true rfl) d_Mod_range_54 ⟨Nat.zero_le _, Nat.zero_le _⟩ (fun H locs hP hD hS => ?_)
        obtain ⟨s_54, e_54⟩ : ∃ z : MS, z = (mNum s_3 99999).2 := ⟨_, rfl⟩
        have i_54 : mInv s_54 := by rw [e_54]; exact inv_num i_3
        have hP : va_P D vwCl (mdW bd ce s_54) H := by rw [e_54]; exact hP
        have hD : va_D A (mdW bd ce s_54) := by rw [e_54]; exact hD
        refine va_put (D := D) (ci := 4) (v := .int ((mNum s_3 99999).1)) (ty := .int) (C := "HeadDeskModel") (T := F_Mod) (N := 38) hx hb hts a_Mod t_Mod k_Mod n_Mod hown hX.1 hP hD hS 0 rfl rfl 10 (by decide) (hts _ m_2_227) (fun _ h9 => h9) rfl (by decide +kernel) rfl rfl (Nat.le_of_ble_eq_true rfl) d_Mod_range_57 (fun H locs hP hD hS => ?_)
        have hP : va_P D vwCl (mdW bd ce (wR s_54 9 ((mNum s_3 99999).1))) H := hP
        have hD : va_D A (mdW bd ce (wR s_54 9 ((mNum s_3 99999).1))) := hD
        obtain ⟨s_57, e_57⟩ : ∃ z : MS, z = wR s_54 9 ((mNum s_3 99999).1) := ⟨_, rfl⟩
        have hP : va_P D vwCl (mdW bd ce s_57) H := by rw [e_57]; exact hP
        have hD : va_D A (mdW bd ce s_57) := by rw [e_57]; exact hD
        have i_57 : mInv s_57 := by rw [e_57]; exact i_54
        refine lv_aload_n hx hb d_Mod_range_60 rfl (lv_at hl 0 rfl) ?_
        refine lv_bipush (v := 45) hx hb d_Mod_range_61 (by decide) ?_
        refine hx_Vz (wr := []) (As := [.int 45]) (rest := []) hI (c_Mod_expect s_57 i_57 45 (by decide)) (cw_V (C := "HeadDeskModel") 1 hts m_3_120 m_3_122 ms_28 m_1_5 m_3_123 (by decide +kernel) ⟨by decide, by decide⟩) hX hA hP hD hS [0, 1, 2, 3, 4, 5, 6] [] rfl rfl (by decide) (by decide) (by decide) (va_recv hX.1 hP (ci := 4) (q0 := 0) rfl rfl) rfl hl.1 rfl (Nat.le_of_ble_eq_true rfl) d_Mod_range_63 ⟨Nat.zero_le _, Nat.zero_le _⟩ (fun H locs hP hD hS => ?_)
        obtain ⟨s_63, e_63⟩ : ∃ z : MS, z = (mExp s_57 45).2 := ⟨_, rfl⟩
        have i_63 : mInv s_63 := by rw [e_63]; exact inv_exp i_57 (by decide)
        have hP : va_P D vwCl (mdW bd ce s_63) H := by rw [e_63]; exact hP
        have hD : va_D A (mdW bd ce s_63) := by rw [e_63]; exact hD
        refine lv_pop hx hb d_Mod_range_66 rfl ?_
        refine lv_aload_n hx hb d_Mod_range_67 rfl (lv_at hl 0 rfl) ?_
        refine va_get (D := D) (ci := 4) (v := .int (gR s_63 4)) (C := "HeadDeskModel") (T := F_Mod) (N := 38) hx hb hts a_Mod hown hX.1 hP 0 rfl rfl 5 (by decide) (hts _ m_2_222) (fun _ h9 => h9) rfl d_Mod_range_68 ?_
        refine lv_if_eq (tgt := 75) hx hb d_Mod_range_71 (by decide) (fun c_71 => ?_) (fun c_71 => ?_)
        · skip
          have c_71 : (gR s_63 4 = 0) := c_71
          refine lv_aload_n hx hb d_Mod_range_75 rfl (lv_at hl 0 rfl) ?_
          refine lv_iconst (v := 2) hx hb d_Mod_range_76 (by decide) ?_
          refine va_put (D := D) (ci := 4) (v := .int 2) (ty := .int) (C := "HeadDeskModel") (T := F_Mod) (N := 38) hx hb hts a_Mod t_Mod k_Mod n_Mod hown hX.1 hP hD hS 0 rfl rfl 9 (by decide) (hts _ m_2_226) (fun _ h9 => h9) rfl (by decide +kernel) rfl rfl (Nat.le_of_ble_eq_true rfl) d_Mod_range_77 (fun H locs hP hD hS => ?_)
          have hP : va_P D vwCl (mdW bd ce (wR s_63 8 2)) H := hP
          have hD : va_D A (mdW bd ce (wR s_63 8 2)) := hD
          obtain ⟨s_77, e_77⟩ : ∃ z : MS, z = wR s_63 8 2 := ⟨_, rfl⟩
          have hP : va_P D vwCl (mdW bd ce s_77) H := by rw [e_77]; exact hP
          have hD : va_D A (mdW bd ce s_77) := by rw [e_77]; exact hD
          have i_77 : mInv s_77 := by rw [e_77]; exact i_63
          refine lv_aload_n hx hb d_Mod_range_80 rfl (lv_at hl 0 rfl) ?_
          refine hx_Vi (wr := []) (As := []) (rest := []) hI (c_Mod_see s_77 i_77 ) (cw_V (C := "HeadDeskModel") 0 hts m_3_109 m_3_111 ms_26 m_1_5 m_3_112 (by decide +kernel) ⟨by decide, by decide⟩) hX hA hP hD hS [0, 1, 2, 3, 4, 5, 6] [] rfl rfl (by decide) (by decide) (by decide) (va_recv hX.1 hP (ci := 4) (q0 := 0) rfl rfl) rfl hl.1 rfl (Nat.le_of_ble_eq_true rfl) d_Mod_range_81 ⟨Nat.zero_le _, Nat.zero_le _⟩ (fun H locs hP hD hS => ?_)
          have hP : va_P D vwCl (mdW bd ce s_77) H := hP
          have hD : va_D A (mdW bd ce s_77) := hD
          refine hx_Sz (wr := [(bd 0, .inr (4, [.int (gR s_77 0), .ref (bd 1), .int (gR s_77 1), .int (gR s_77 2), .int (gR s_77 3), .int (gR s_77 4), .int (gR s_77 5), .int (gR s_77 6), .int (gR s_77 7), .int (gR s_77 8), .int (gR s_77 9), .int (gR s_77 10), .int (gR s_77 11), .int (gR s_77 12), .int (gR s_77 13), .int (gR s_77 14), .int (gR s_77 15), .int (gR s_77 16), .int (gR s_77 17), .int (gR s_77 18), .ref (bd 2), .int (gR s_77 19), .int (gR s_77 20), .int (gR s_77 21), .int (gR s_77 22), .int (gR s_77 23), .int (gR s_77 24), .int (gR s_77 25), .int (gR s_77 26), .ref (bd 3), .ref (bd 4), .ref (bd 5), .ref (bd 6), .int (gR s_77 27), .int (gR s_77 28), .int (gR s_77 29), .int (gR s_77 30), .int (gR s_77 31)])), (bd 1, .inl (ce 0, 300, .inl (gTp s_77))), (bd 2, .inl (ce 1, 8, .inl (gMt s_77))), (bd 3, .inl (ce 2, 150, .inl (gNf s_77))), (bd 4, .inl (ce 3, 150, .inl (gNt s_77))), (bd 5, .inl (ce 4, 18, .inl (gKp s_77))), (bd 6, .inl (ce 5, 8, .inl (gKm s_77)))]) (As := [.int (mSee s_77)]) (rest := []) hI (c_Mod_isDigit (mSee s_77)) (cw_S 1 hts m_3_138 m_3_139 m_1_5 m_3_140 (by decide +kernel) ⟨by decide, by decide⟩) hX hA hP hD hS [] [0, 1, 2, 3, 4, 5, 6] rfl rfl (by decide) (by decide) (by decide) rfl hl.1 rfl (Nat.le_of_ble_eq_true rfl) d_Mod_range_84 ⟨Nat.zero_le _, Nat.zero_le _⟩ (fun H locs hP hD hS => ?_)
          have hP : va_P D vwCl (mdW bd ce s_77) H := hP.sub [0, 1, 2, 3, 4, 5, 6] rfl
          have hD : va_D A (mdW bd ce s_77) := hD.sub [0, 1, 2, 3, 4, 5, 6] (by decide) rfl
          refine lv_if_ne (tgt := 91) hx hb d_Mod_range_87 (by decide) (fun c_87 => ?_) (fun c_87 => ?_)
          · skip
            have c_87 : (isD (mSee s_77)) = true := bI_1 c_87
            refine lv_aload_n hx hb d_Mod_range_91 rfl (lv_at hl 0 rfl) ?_
            refine lv_aload_n hx hb d_Mod_range_92 rfl (lv_at hl 0 rfl) ?_
            refine lv_ldc (v := 99999) hx hb hown (hts _ m_3_166) d_Mod_range_93 ?_
            refine hx_Vi (wr := []) (As := [.int 99999]) (rest := [.ref (bd 0)]) hI (c_Mod_number s_77 i_77 99999) (cw_V (C := "HeadDeskModel") 1 hts m_3_134 m_3_136 ms_31 m_1_5 m_3_137 (by decide +kernel) ⟨by decide, by decide⟩) hX hA hP hD hS [0, 1, 2, 3, 4, 5, 6] [] rfl rfl (by decide) (by decide) (by decide) (va_recv hX.1 hP (ci := 4) (q0 := 0) rfl rfl) rfl hl.1 rfl (Nat.le_of_ble_eq_true rfl) d_Mod_range_95 ⟨Nat.zero_le _, Nat.zero_le _⟩ (fun H locs hP hD hS => ?_)
            obtain ⟨s_95, e_95⟩ : ∃ z : MS, z = (mNum s_77 99999).2 := ⟨_, rfl⟩
            have i_95 : mInv s_95 := by rw [e_95]; exact inv_num i_77
            have hP : va_P D vwCl (mdW bd ce s_95) H := by rw [e_95]; exact hP
            have hD : va_D A (mdW bd ce s_95) := by rw [e_95]; exact hD
            refine va_put (D := D) (ci := 4) (v := .int ((mNum s_77 99999).1)) (ty := .int) (C := "HeadDeskModel") (T := F_Mod) (N := 38) hx hb hts a_Mod t_Mod k_Mod n_Mod hown hX.1 hP hD hS 0 rfl rfl 11 (by decide) (hts _ m_2_228) (fun _ h9 => h9) rfl (by decide +kernel) rfl rfl (Nat.le_of_ble_eq_true rfl) d_Mod_range_98 (fun H locs hP hD hS => ?_)
            have hP : va_P D vwCl (mdW bd ce (wR s_95 10 ((mNum s_77 99999).1))) H := hP
            have hD : va_D A (mdW bd ce (wR s_95 10 ((mNum s_77 99999).1))) := hD
            obtain ⟨s_98, e_98⟩ : ∃ z : MS, z = wR s_95 10 ((mNum s_77 99999).1) := ⟨_, rfl⟩
            have hP : va_P D vwCl (mdW bd ce s_98) H := by rw [e_98]; exact hP
            have hD : va_D A (mdW bd ce s_98) := by rw [e_98]; exact hD
            have i_98 : mInv s_98 := by rw [e_98]; exact i_95
            refine lv_aload_n hx hb d_Mod_range_101 rfl (lv_at hl 0 rfl) ?_
            refine lv_aload_n hx hb d_Mod_range_102 rfl (lv_at hl 0 rfl) ?_
            refine va_get (D := D) (ci := 4) (v := .int (gR s_98 9)) (C := "HeadDeskModel") (T := F_Mod) (N := 38) hx hb hts a_Mod hown hX.1 hP 0 rfl rfl 10 (by decide) (hts _ m_2_227) (fun _ h9 => h9) rfl d_Mod_range_103 ?_
            refine lv_aload_n hx hb d_Mod_range_106 rfl (lv_at hl 0 rfl) ?_
            refine va_get (D := D) (ci := 4) (v := .int (gR s_98 10)) (C := "HeadDeskModel") (T := F_Mod) (N := 38) hx hb hts a_Mod hown hX.1 hP 0 rfl rfl 11 (by decide) (hts _ m_2_228) (fun _ h9 => h9) rfl d_Mod_range_107 ?_
            refine lv_icmp_le (tgt := 117) hx hb d_Mod_range_110 (by decide) (fun c_110 => ?_) (fun c_110 => ?_)
            · skip
              have c_110 : (gR s_98 9 ≤ gR s_98 10) := c_110
              refine lv_iconst (v := 1) hx hb d_Mod_range_117 (by decide) ?_
              refine va_put (D := D) (ci := 4) (v := .int 1) (ty := .int) (C := "HeadDeskModel") (T := F_Mod) (N := 38) hx hb hts a_Mod t_Mod k_Mod n_Mod hown hX.1 hP hD hS 0 rfl rfl 9 (by decide) (hts _ m_2_226) (fun _ h9 => h9) rfl (by decide +kernel) rfl rfl (Nat.le_of_ble_eq_true rfl) d_Mod_range_118 (fun H locs hP hD hS => ?_)
              have hP : va_P D vwCl (mdW bd ce (wR s_98 8 1)) H := hP
              have hD : va_D A (mdW bd ce (wR s_98 8 1)) := hD
              obtain ⟨s_118, e_118⟩ : ∃ z : MS, z = wR s_98 8 1 := ⟨_, rfl⟩
              have hP : va_P D vwCl (mdW bd ce s_118) H := by rw [e_118]; exact hP
              have hD : va_D A (mdW bd ce s_118) := by rw [e_118]; exact hD
              have i_118 : mInv s_118 := by rw [e_118]; exact i_98
              exact hret H locs s_118 _ _ hP hD hS (by (try simp only [mRng, if_pos c_11, if_neg c_21, if_pos c_71, c_87, if_pos c_110, ← e_3, ← e_54, ← e_57, ← e_63, ← e_77, ← e_95, ← e_98, ← e_118, if_true, if_false, Bool.false_eq_true, ↓reduceIte]) <;> (try simp only [mRngG, if_pos c_11, if_neg c_21, if_pos c_71, c_87, if_pos c_110, ← e_3, ← e_54, ← e_57, ← e_63, ← e_77, ← e_95, ← e_98, ← e_118, if_true, if_false, Bool.false_eq_true, ↓reduceIte]) <;> (try simp only [mRngA, if_pos c_11, if_neg c_21, if_pos c_71, c_87, if_pos c_110, ← e_3, ← e_54, ← e_57, ← e_63, ← e_77, ← e_95, ← e_98, ← e_118, if_true, if_false, Bool.false_eq_true, ↓reduceIte]) <;> (try simp only [mRngB, if_pos c_11, if_neg c_21, if_pos c_71, c_87, if_pos c_110, ← e_3, ← e_54, ← e_57, ← e_63, ← e_77, ← e_95, ← e_98, ← e_118, if_true, if_false, Bool.false_eq_true, ↓reduceIte]) <;> (try simp only [mRngC, if_pos c_11, if_neg c_21, if_pos c_71, c_87, if_pos c_110, ← e_3, ← e_54, ← e_57, ← e_63, ← e_77, ← e_95, ← e_98, ← e_118, if_true, if_false, Bool.false_eq_true, ↓reduceIte]) <;> (try simp only [mRngK, if_pos c_11, if_neg c_21, if_pos c_71, c_87, if_pos c_110, ← e_3, ← e_54, ← e_57, ← e_63, ← e_77, ← e_95, ← e_98, ← e_118, if_true, if_false, Bool.false_eq_true, ↓reduceIte]) <;> (try simp only [mRngD, if_pos c_11, if_neg c_21, if_pos c_71, c_87, if_pos c_110, ← e_3, ← e_54, ← e_57, ← e_63, ← e_77, ← e_95, ← e_98, ← e_118, if_true, if_false, Bool.false_eq_true, ↓reduceIte]) <;> (first | done | with_reducible rfl | rw [e_118])) d_Mod_range_121
            · skip
              have c_110 : ¬ (gR s_98 9 ≤ gR s_98 10) := c_110
              refine lv_iconst (v := 0) hx hb d_Mod_range_113 (by decide) ?_
              refine lv_goto (tgt := 118) hx hb d_Mod_range_114 (by decide) ?_
              refine va_put (D := D) (ci := 4) (v := .int 0) (ty := .int) (C := "HeadDeskModel") (T := F_Mod) (N := 38) hx hb hts a_Mod t_Mod k_Mod n_Mod hown hX.1 hP hD hS 0 rfl rfl 9 (by decide) (hts _ m_2_226) (fun _ h9 => h9) rfl (by decide +kernel) rfl rfl (Nat.le_of_ble_eq_true rfl) d_Mod_range_118 (fun H locs hP hD hS => ?_)
              have hP : va_P D vwCl (mdW bd ce (wR s_98 8 0)) H := hP
              have hD : va_D A (mdW bd ce (wR s_98 8 0)) := hD
              obtain ⟨s_118, e_118⟩ : ∃ z : MS, z = wR s_98 8 0 := ⟨_, rfl⟩
              have hP : va_P D vwCl (mdW bd ce s_118) H := by rw [e_118]; exact hP
              have hD : va_D A (mdW bd ce s_118) := by rw [e_118]; exact hD
              have i_118 : mInv s_118 := by rw [e_118]; exact i_98
              exact hret H locs s_118 _ _ hP hD hS (by (try simp only [mRng, if_pos c_11, if_neg c_21, if_pos c_71, c_87, if_neg c_110, ← e_3, ← e_54, ← e_57, ← e_63, ← e_77, ← e_95, ← e_98, ← e_118, if_true, if_false, Bool.false_eq_true, ↓reduceIte]) <;> (try simp only [mRngG, if_pos c_11, if_neg c_21, if_pos c_71, c_87, if_neg c_110, ← e_3, ← e_54, ← e_57, ← e_63, ← e_77, ← e_95, ← e_98, ← e_118, if_true, if_false, Bool.false_eq_true, ↓reduceIte]) <;> (try simp only [mRngA, if_pos c_11, if_neg c_21, if_pos c_71, c_87, if_neg c_110, ← e_3, ← e_54, ← e_57, ← e_63, ← e_77, ← e_95, ← e_98, ← e_118, if_true, if_false, Bool.false_eq_true, ↓reduceIte]) <;> (try simp only [mRngB, if_pos c_11, if_neg c_21, if_pos c_71, c_87, if_neg c_110, ← e_3, ← e_54, ← e_57, ← e_63, ← e_77, ← e_95, ← e_98, ← e_118, if_true, if_false, Bool.false_eq_true, ↓reduceIte]) <;> (try simp only [mRngC, if_pos c_11, if_neg c_21, if_pos c_71, c_87, if_neg c_110, ← e_3, ← e_54, ← e_57, ← e_63, ← e_77, ← e_95, ← e_98, ← e_118, if_true, if_false, Bool.false_eq_true, ↓reduceIte]) <;> (try simp only [mRngK, if_pos c_11, if_neg c_21, if_pos c_71, c_87, if_neg c_110, ← e_3, ← e_54, ← e_57, ← e_63, ← e_77, ← e_95, ← e_98, ← e_118, if_true, if_false, Bool.false_eq_true, ↓reduceIte]) <;> (try simp only [mRngD, if_pos c_11, if_neg c_21, if_pos c_71, c_87, if_neg c_110, ← e_3, ← e_54, ← e_57, ← e_63, ← e_77, ← e_95, ← e_98, ← e_118, if_true, if_false, Bool.false_eq_true, ↓reduceIte]) <;> (first | done | with_reducible rfl | rw [e_118])) d_Mod_range_121
          · skip
            have c_87 : (isD (mSee s_77)) = false := bI_0 c_87
            exact hret H locs s_77 _ _ hP hD hS (by (try simp only [mRng, if_pos c_11, if_neg c_21, if_pos c_71, c_87, ← e_3, ← e_54, ← e_57, ← e_63, ← e_77, if_true, if_false, Bool.false_eq_true, ↓reduceIte]) <;> (try simp only [mRngG, if_pos c_11, if_neg c_21, if_pos c_71, c_87, ← e_3, ← e_54, ← e_57, ← e_63, ← e_77, if_true, if_false, Bool.false_eq_true, ↓reduceIte]) <;> (try simp only [mRngA, if_pos c_11, if_neg c_21, if_pos c_71, c_87, ← e_3, ← e_54, ← e_57, ← e_63, ← e_77, if_true, if_false, Bool.false_eq_true, ↓reduceIte]) <;> (try simp only [mRngB, if_pos c_11, if_neg c_21, if_pos c_71, c_87, ← e_3, ← e_54, ← e_57, ← e_63, ← e_77, if_true, if_false, Bool.false_eq_true, ↓reduceIte]) <;> (try simp only [mRngC, if_pos c_11, if_neg c_21, if_pos c_71, c_87, ← e_3, ← e_54, ← e_57, ← e_63, ← e_77, if_true, if_false, Bool.false_eq_true, ↓reduceIte]) <;> (try simp only [mRngK, if_pos c_11, if_neg c_21, if_pos c_71, c_87, ← e_3, ← e_54, ← e_57, ← e_63, ← e_77, if_true, if_false, Bool.false_eq_true, ↓reduceIte]) <;> (try simp only [mRngD, if_pos c_11, if_neg c_21, if_pos c_71, c_87, ← e_3, ← e_54, ← e_57, ← e_63, ← e_77, if_true, if_false, Bool.false_eq_true, ↓reduceIte]) <;> (first | done | with_reducible rfl | rw [e_77])) d_Mod_range_90
        · skip
          have c_71 : ¬ (gR s_63 4 = 0) := c_71
          exact hret H locs s_63 _ _ hP hD hS (by (try simp only [mRng, if_pos c_11, if_neg c_21, if_neg c_71, ← e_3, ← e_54, ← e_57, ← e_63, if_true, if_false, Bool.false_eq_true, ↓reduceIte]) <;> (try simp only [mRngG, if_pos c_11, if_neg c_21, if_neg c_71, ← e_3, ← e_54, ← e_57, ← e_63, if_true, if_false, Bool.false_eq_true, ↓reduceIte]) <;> (try simp only [mRngA, if_pos c_11, if_neg c_21, if_neg c_71, ← e_3, ← e_54, ← e_57, ← e_63, if_true, if_false, Bool.false_eq_true, ↓reduceIte]) <;> (try simp only [mRngB, if_pos c_11, if_neg c_21, if_neg c_71, ← e_3, ← e_54, ← e_57, ← e_63, if_true, if_false, Bool.false_eq_true, ↓reduceIte]) <;> (try simp only [mRngC, if_pos c_11, if_neg c_21, if_neg c_71, ← e_3, ← e_54, ← e_57, ← e_63, if_true, if_false, Bool.false_eq_true, ↓reduceIte]) <;> (try simp only [mRngK, if_pos c_11, if_neg c_21, if_neg c_71, ← e_3, ← e_54, ← e_57, ← e_63, if_true, if_false, Bool.false_eq_true, ↓reduceIte]) <;> (try simp only [mRngD, if_pos c_11, if_neg c_21, if_neg c_71, ← e_3, ← e_54, ← e_57, ← e_63, if_true, if_false, Bool.false_eq_true, ↓reduceIte]) <;> (first | done | with_reducible rfl | rw [e_63])) d_Mod_range_74
      · skip
        have c_21 : (mSee s_3 = 45) := c_21
        refine lv_aload_n hx hb d_Mod_range_24 rfl (lv_at hl 0 rfl) ?_
        refine lv_dup hx hb d_Mod_range_25 rfl ?_
        refine va_get (D := D) (ci := 4) (v := .int (gR s_3 3)) (C := "HeadDeskModel") (T := F_Mod) (N := 38) hx hb hts a_Mod hown hX.1 hP 0 rfl rfl 4 (by decide) (hts _ m_2_221) (fun _ h9 => h9) rfl d_Mod_range_26 ?_
        refine lv_iconst (v := 1) hx hb d_Mod_range_29 (by decide) ?_
        refine lv_iadd hx hb d_Mod_range_30 ?_
        refine va_put (D := D) (ci := 4) (v := .int ((gR s_3 3) + 1)) (ty := .int) (C := "HeadDeskModel") (T := F_Mod) (N := 38) hx hb hts a_Mod t_Mod k_Mod n_Mod hown hX.1 hP hD hS 0 rfl rfl 4 (by decide) (hts _ m_2_221) (fun _ h9 => h9) rfl (by decide +kernel) rfl rfl (Nat.le_of_ble_eq_true rfl) d_Mod_range_31 (fun H locs hP hD hS => ?_)
        have hP : va_P D vwCl (mdW bd ce (wR s_3 3 ((gR s_3 3) + 1))) H := hP
        have hD : va_D A (mdW bd ce (wR s_3 3 ((gR s_3 3) + 1))) := hD
        have i_31 : mInv (wR s_3 3 ((gR s_3 3) + 1)) := inv_nx (s := s_3) i_3 (see_lt c_21 (by decide))
        obtain ⟨s_31, e_31⟩ : ∃ z : MS, z = wR s_3 3 ((gR s_3 3) + 1) := ⟨_, rfl⟩
        have hP : va_P D vwCl (mdW bd ce s_31) H := by rw [e_31]; exact hP
        have hD : va_D A (mdW bd ce s_31) := by rw [e_31]; exact hD
        have i_31 : mInv s_31 := by rw [e_31]; exact i_31
        refine lv_aload_n hx hb d_Mod_range_34 rfl (lv_at hl 0 rfl) ?_
        refine lv_iconst (v := 3) hx hb d_Mod_range_35 (by decide) ?_
        refine va_put (D := D) (ci := 4) (v := .int 3) (ty := .int) (C := "HeadDeskModel") (T := F_Mod) (N := 38) hx hb hts a_Mod t_Mod k_Mod n_Mod hown hX.1 hP hD hS 0 rfl rfl 9 (by decide) (hts _ m_2_226) (fun _ h9 => h9) rfl (by decide +kernel) rfl rfl (Nat.le_of_ble_eq_true rfl) d_Mod_range_36 (fun H locs hP hD hS => ?_)
        have hP : va_P D vwCl (mdW bd ce (wR s_31 8 3)) H := hP
        have hD : va_D A (mdW bd ce (wR s_31 8 3)) := hD
        obtain ⟨s_36, e_36⟩ : ∃ z : MS, z = wR s_31 8 3 := ⟨_, rfl⟩
        have hP : va_P D vwCl (mdW bd ce s_36) H := by rw [e_36]; exact hP
        have hD : va_D A (mdW bd ce s_36) := by rw [e_36]; exact hD
        have i_36 : mInv s_36 := by rw [e_36]; exact i_31
        refine lv_aload_n hx hb d_Mod_range_39 rfl (lv_at hl 0 rfl) ?_
        refine lv_aload_n hx hb d_Mod_range_40 rfl (lv_at hl 0 rfl) ?_
        refine lv_ldc (v := 99999) hx hb hown (hts _ m_3_166) d_Mod_range_41 ?_
        refine hx_Vi (wr := []) (As := [.int 99999]) (rest := [.ref (bd 0)]) hI (c_Mod_number s_36 i_36 99999) (cw_V (C := "HeadDeskModel") 1 hts m_3_134 m_3_136 ms_31 m_1_5 m_3_137 (by decide +kernel) ⟨by decide, by decide⟩) hX hA hP hD hS [0, 1, 2, 3, 4, 5, 6] [] rfl rfl (by decide) (by decide) (by decide) (va_recv hX.1 hP (ci := 4) (q0 := 0) rfl rfl) rfl hl.1 rfl (Nat.le_of_ble_eq_true rfl) d_Mod_range_43 ⟨Nat.zero_le _, Nat.zero_le _⟩ (fun H locs hP hD hS => ?_)
        obtain ⟨s_43, e_43⟩ : ∃ z : MS, z = (mNum s_36 99999).2 := ⟨_, rfl⟩
        have i_43 : mInv s_43 := by rw [e_43]; exact inv_num i_36
        have hP : va_P D vwCl (mdW bd ce s_43) H := by rw [e_43]; exact hP
        have hD : va_D A (mdW bd ce s_43) := by rw [e_43]; exact hD
        refine va_put (D := D) (ci := 4) (v := .int ((mNum s_36 99999).1)) (ty := .int) (C := "HeadDeskModel") (T := F_Mod) (N := 38) hx hb hts a_Mod t_Mod k_Mod n_Mod hown hX.1 hP hD hS 0 rfl rfl 10 (by decide) (hts _ m_2_227) (fun _ h9 => h9) rfl (by decide +kernel) rfl rfl (Nat.le_of_ble_eq_true rfl) d_Mod_range_46 (fun H locs hP hD hS => ?_)
        have hP : va_P D vwCl (mdW bd ce (wR s_43 9 ((mNum s_36 99999).1))) H := hP
        have hD : va_D A (mdW bd ce (wR s_43 9 ((mNum s_36 99999).1))) := hD
        obtain ⟨s_46, e_46⟩ : ∃ z : MS, z = wR s_43 9 ((mNum s_36 99999).1) := ⟨_, rfl⟩
        have hP : va_P D vwCl (mdW bd ce s_46) H := by rw [e_46]; exact hP
        have hD : va_D A (mdW bd ce s_46) := by rw [e_46]; exact hD
        have i_46 : mInv s_46 := by rw [e_46]; exact i_43
        exact hret H locs s_46 _ _ hP hD hS (by (try simp only [mRng, if_pos c_11, if_pos c_21, ← e_3, ← e_31, ← e_36, ← e_43, ← e_46, if_true, if_false, Bool.false_eq_true, ↓reduceIte]) <;> (try simp only [mRngG, if_pos c_11, if_pos c_21, ← e_3, ← e_31, ← e_36, ← e_43, ← e_46, if_true, if_false, Bool.false_eq_true, ↓reduceIte]) <;> (try simp only [mRngA, if_pos c_11, if_pos c_21, ← e_3, ← e_31, ← e_36, ← e_43, ← e_46, if_true, if_false, Bool.false_eq_true, ↓reduceIte]) <;> (try simp only [mRngB, if_pos c_11, if_pos c_21, ← e_3, ← e_31, ← e_36, ← e_43, ← e_46, if_true, if_false, Bool.false_eq_true, ↓reduceIte]) <;> (try simp only [mRngC, if_pos c_11, if_pos c_21, ← e_3, ← e_31, ← e_36, ← e_43, ← e_46, if_true, if_false, Bool.false_eq_true, ↓reduceIte]) <;> (try simp only [mRngK, if_pos c_11, if_pos c_21, ← e_3, ← e_31, ← e_36, ← e_43, ← e_46, if_true, if_false, Bool.false_eq_true, ↓reduceIte]) <;> (try simp only [mRngD, if_pos c_11, if_pos c_21, ← e_3, ← e_31, ← e_36, ← e_43, ← e_46, if_true, if_false, Bool.false_eq_true, ↓reduceIte]) <;> (first | done | with_reducible rfl | rw [e_46])) d_Mod_range_49
    · skip
      have c_11 : ¬ (gR s_3 4 = 0) := c_11
      exact hret H locs s_3 _ _ hP hD hS (by (try simp only [mRng, if_neg c_11, ← e_3, if_true, if_false, Bool.false_eq_true, ↓reduceIte]) <;> (try simp only [mRngG, if_neg c_11, ← e_3, if_true, if_false, Bool.false_eq_true, ↓reduceIte]) <;> (try simp only [mRngA, if_neg c_11, ← e_3, if_true, if_false, Bool.false_eq_true, ↓reduceIte]) <;> (try simp only [mRngB, if_neg c_11, ← e_3, if_true, if_false, Bool.false_eq_true, ↓reduceIte]) <;> (try simp only [mRngC, if_neg c_11, ← e_3, if_true, if_false, Bool.false_eq_true, ↓reduceIte]) <;> (try simp only [mRngK, if_neg c_11, ← e_3, if_true, if_false, Bool.false_eq_true, ↓reduceIte]) <;> (try simp only [mRngD, if_neg c_11, ← e_3, if_true, if_false, Bool.false_eq_true, ↓reduceIte]) <;> (first | done | with_reducible rfl | rw [e_3])) d_Mod_range_14
  rw [hH, hlo] at goal
  exact goal
