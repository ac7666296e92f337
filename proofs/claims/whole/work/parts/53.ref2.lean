variable {l : Launch} {D : va_G} {bd : Nat → Nat} {ce : Nat → ClassId} {adK adV : Nat → Nat} {tF : Nat} {tys : List (ClassId × FieldType)}

set_option maxHeartbeats 4000000 in
set_option maxRecDepth 100000 in
theorem c_Mod_target (st : MS) (hv : mInv st) (x : Int32) : hx_Mv l D (tyM ce) adK adV tF (mdW bd ce) y_Mod_target w_Mod_target (rmD 3) [.ref (bd 0), .int x] st (mTgt st x) := by
  refine hx_Mv.of (cc := b_Mod_target) (maxL := 2) (by decide) rfl (Nat.le_of_ble_eq_true rfl) ?_
  intro p e s m below meth c A Q ls hI hX hA hP hD hS hl hret
  obtain ⟨hx, hb, hml, hown, hts⟩ := id hI
  have hts : ∀ w ∈ aw, w.before ([.ref (bd 0), .int x] : List Value).toArray s = true := fun w h => hts w (List.mem_cons_of_mem _ h)
  have hown : s.vm.findClass "HeadDeskModel" = some m.cls := hown
  have hI : hx_In p s m ([.ref (bd 0), .int x] : List Value).toArray c b_Mod_target 2 "HeadDeskModel" aw := ⟨hx, hb, hml, hown, hts⟩
  have hP : va_P D vwCl (mdW bd ce st) s.heap := hP
  obtain ⟨H, hH⟩ : ∃ H, H = s.heap := ⟨_, rfl⟩
  obtain ⟨locs, hlo⟩ : ∃ locs : List Loc, locs = [] := ⟨_, rfl⟩
  have hS : va_S A s.heap H locs := by rw [hH, hlo]; exact hS
  have hP : va_P D vwCl (mdW bd ce st) H := by rw [hH]; exact hP
  have hl : lv_has ls 2 [(0, .ref (bd 0)), (1, .int x)] := hl
  have goal : W p l e (rmD 3) s m ([.ref (bd 0), .int x] : List Value).toArray below meth c H locs 0 0 Q (F0 m 0 ls []) := by
    refine lv_aload_n hx hb d_Mod_target_0 rfl (lv_at hl 0 rfl) ?_
    refine lv_bipush (v := 32) hx hb d_Mod_target_1 (by decide) ?_
    refine hx_Vz (wr := []) (As := [.int 32]) (rest := []) hI (c_Mod_expect st hv 32 (by decide)) (cw_V (C := "HeadDeskModel") 1 hts m_3_120 m_3_122 ms_28 m_1_5 m_3_123 (by decide +kernel) ⟨by decide, by decide⟩) hX hA hP hD hS [0, 1, 2, 3, 4, 5, 6] [] rfl rfl (by decide) (by decide) (by decide) (va_recv hX.1 hP (ci := 4) (q0 := 0) rfl rfl) rfl hl.1 rfl (Nat.le_of_ble_eq_true rfl) d_Mod_target_3 ⟨Nat.zero_le _, Nat.zero_le _⟩ (fun H locs hP hD hS => ?_)
    obtain ⟨s_3, e_3⟩ : ∃ z : MS, z = (mExp st 32).2 := ⟨_, rfl⟩
    have i_3 : mInv s_3 := by rw [e_3]; exact inv_exp hv (by decide)
    have hP : va_P D vwCl (mdW bd ce s_3) H := by rw [e_3]; exact hP
    have hD : va_D A (mdW bd ce s_3) := by rw [e_3]; exact hD
    refine lv_pop hx hb d_Mod_target_6 rfl ?_
    refine lv_aload_n hx hb d_Mod_target_7 rfl (lv_at hl 0 rfl) ?_
    refine lv_bipush (v := 47) hx hb d_Mod_target_8 (by decide) ?_
    refine hx_Vz (wr := []) (As := [.int 47]) (rest := []) hI (c_Mod_expect s_3 i_3 47 (by decide)) (cw_V (C := "HeadDeskModel") 1 hts m_3_120 m_3_122 ms_28 m_1_5 m_3_123 (by decide +kernel) ⟨by decide, by decide⟩) hX hA hP hD hS [0, 1, 2, 3, 4, 5, 6] [] rfl rfl (by decide) (by decide) (by decide) (va_recv hX.1 hP (ci := 4) (q0 := 0) rfl rfl) rfl hl.1 rfl (Nat.le_of_ble_eq_true rfl) d_Mod_target_10 ⟨Nat.zero_le _, Nat.zero_le _⟩ (fun H locs hP hD hS => ?_)
    obtain ⟨s_10, e_10⟩ : ∃ z : MS, z = (mExp s_3 47).2 := ⟨_, rfl⟩
    have i_10 : mInv s_10 := by rw [e_10]; exact inv_exp i_3 (by decide)
    have hP : va_P D vwCl (mdW bd ce s_10) H := by rw [e_10]; exact hP
    have hD : va_D A (mdW bd ce s_10) := by rw [e_10]; exact hD
    refine lv_pop hx hb d_Mod_target_13 rfl ?_
    refine lv_aload_n hx hb d_Mod_target_14 rfl (lv_at hl 0 rfl) ?_
    refine lv_aload_n hx hb d_Mod_target_15 rfl (lv_at hl 0 rfl) ?_
    refine lv_bipush (v := 31) hx hb d_Mod_target_16 (by decide) ?_
    refine hx_Vi (wr := []) (As := [.int 31]) (rest := [.ref (bd 0)]) hI (c_Mod_number s_10 i_10 31) (cw_V (C := "HeadDeskModel") 1 hts m_3_134 m_3_136 ms_31 m_1_5 m_3_137 (by decide +kernel) ⟨by decide, by decide⟩) hX hA hP hD hS [0, 1, 2, 3, 4, 5, 6] [] rfl rfl (by decide) (by decide) (by decide) (va_recv hX.1 hP (ci := 4) (q0 := 0) rfl rfl) rfl hl.1 rfl (Nat.le_of_ble_eq_true rfl) d_Mod_target_18 ⟨Nat.zero_le _, Nat.zero_le _⟩ (fun H locs hP hD hS => ?_)
    obtain ⟨s_18, e_18⟩ : ∃ z : MS, z = (mNum s_10 31).2 := ⟨_, rfl⟩
    have i_18 : mInv s_18 := by rw [e_18]; exact inv_num i_10
    have hP : va_P D vwCl (mdW bd ce s_18) H := by rw [e_18]; exact hP
    have hD : va_D A (mdW bd ce s_18) := by rw [e_18]; exact hD
    refine va_put (D := D) (ci := 4) (v := .int ((mNum s_10 31).1)) (ty := .int) (C := "HeadDeskModel") (T := F_Mod) (N := 38) hx hb hts a_Mod t_Mod k_Mod n_Mod hown hX.1 hP hD hS 0 rfl rfl 7 (by decide) (hts _ m_2_224) (fun _ h9 => h9) rfl (by decide +kernel) rfl rfl (Nat.le_of_ble_eq_true rfl) d_Mod_target_21 (fun H locs hP hD hS => ?_)
    have hP : va_P D vwCl (mdW bd ce (wR s_18 6 ((mNum s_10 31).1))) H := hP
    have hD : va_D A (mdW bd ce (wR s_18 6 ((mNum s_10 31).1))) := hD
    obtain ⟨s_21, e_21⟩ : ∃ z : MS, z = wR s_18 6 ((mNum s_10 31).1) := ⟨_, rfl⟩
    have hP : va_P D vwCl (mdW bd ce s_21) H := by rw [e_21]; exact hP
    have hD : va_D A (mdW bd ce s_21) := by rw [e_21]; exact hD
    have i_21 : mInv s_21 := by rw [e_21]; exact i_18
    refine lv_aload_n hx hb d_Mod_target_24 rfl (lv_at hl 0 rfl) ?_
    refine lv_iconst (v := 0) hx hb d_Mod_target_25 (by decide) ?_
    refine va_put (D := D) (ci := 4) (v := .int 0) (ty := .int) (C := "HeadDeskModel") (T := F_Mod) (N := 38) hx hb hts a_Mod t_Mod k_Mod n_Mod hown hX.1 hP hD hS 0 rfl rfl 8 (by decide) (hts _ m_2_225) (fun _ h9 => h9) rfl (by decide +kernel) rfl rfl (Nat.le_of_ble_eq_true rfl) d_Mod_target_26 (fun H locs hP hD hS => ?_)
    have hP : va_P D vwCl (mdW bd ce (wR s_21 7 0)) H := hP
    have hD : va_D A (mdW bd ce (wR s_21 7 0)) := hD
    obtain ⟨s_26, e_26⟩ : ∃ z : MS, z = wR s_21 7 0 := ⟨_, rfl⟩
    have hP : va_P D vwCl (mdW bd ce s_26) H := by rw [e_26]; exact hP
    have hD : va_D A (mdW bd ce s_26) := by rw [e_26]; exact hD
    have i_26 : mInv s_26 := by rw [e_26]; exact i_21
    refine lv_aload_n hx hb d_Mod_target_29 rfl (lv_at hl 0 rfl) ?_
    refine va_get (D := D) (ci := 4) (v := .int (gR s_26 4)) (C := "HeadDeskModel") (T := F_Mod) (N := 38) hx hb hts a_Mod hown hX.1 hP 0 rfl rfl 5 (by decide) (hts _ m_2_222) (fun _ h9 => h9) rfl d_Mod_target_30 ?_
    refine lv_if_ne (tgt := 68) hx hb d_Mod_target_33 (by decide) (fun c_33 => ?_) (fun c_33 => ?_)
    · skip
      have c_33 : ¬ (gR s_26 4 = 0) := c_33
      refine lv_aload_n hx hb d_Mod_target_68 rfl (lv_at hl 0 rfl) ?_
      refine lv_bipush (v := 10) hx hb d_Mod_target_69 (by decide) ?_
      refine hx_Vz (wr := []) (As := [.int 10]) (rest := []) hI (c_Mod_expect s_26 i_26 10 (by decide)) (cw_V (C := "HeadDeskModel") 1 hts m_3_120 m_3_122 ms_28 m_1_5 m_3_123 (by decide +kernel) ⟨by decide, by decide⟩) hX hA hP hD hS [0, 1, 2, 3, 4, 5, 6] [] rfl rfl (by decide) (by decide) (by decide) (va_recv hX.1 hP (ci := 4) (q0 := 0) rfl rfl) rfl hl.1 rfl (Nat.le_of_ble_eq_true rfl) d_Mod_target_71 ⟨Nat.zero_le _, Nat.zero_le _⟩ (fun H locs hP hD hS => ?_)
      obtain ⟨s_71, e_71⟩ : ∃ z : MS, z = (mExp s_26 10).2 := ⟨_, rfl⟩
      have i_71 : mInv s_71 := by rw [e_71]; exact inv_exp i_26 (by decide)
      have hP : va_P D vwCl (mdW bd ce s_71) H := by rw [e_71]; exact hP
      have hD : va_D A (mdW bd ce s_71) := by rw [e_71]; exact hD
      refine lv_pop hx hb d_Mod_target_74 rfl ?_
      exact hret H locs s_71 _ _ hP hD hS (by first | (simp only [mTgt, mTgtB, mTgtC, if_neg c_33, ← e_3, ← e_10, ← e_18, ← e_21, ← e_26, ← e_71, fStop, if_true, if_false, Bool.false_eq_true, ↓reduceIte]; done) | (simp only [mTgt, mTgtB, mTgtC, if_neg c_33, ← e_3, ← e_10, ← e_18, ← e_21, ← e_26, ← e_71, fStop, if_true, if_false, Bool.false_eq_true, ↓reduceIte]; with_reducible rfl) | (simp only [mTgt, mTgtB, mTgtC, if_neg c_33, ← e_3, ← e_10, ← e_18, ← e_21, ← e_26, ← e_71, fStop, if_true, if_false, Bool.false_eq_true, ↓reduceIte]; rw [e_71])) d_Mod_target_75
    · skip
      have c_33 : (gR s_26 4 = 0) := c_33
      refine lv_iload_n hx hb d_Mod_target_36 rfl (lv_at hl 1 rfl) ?_
      refine lv_if_eq (tgt := 68) hx hb d_Mod_target_37 (by decide) (fun c_37 => ?_) (fun c_37 => ?_)
      · skip
        have c_37 : (x = 0) := c_37
        refine lv_aload_n hx hb d_Mod_target_68 rfl (lv_at hl 0 rfl) ?_
        refine lv_bipush (v := 10) hx hb d_Mod_target_69 (by decide) ?_
        refine hx_Vz (wr := []) (As := [.int 10]) (rest := []) hI (c_Mod_expect s_26 i_26 10 (by decide)) (cw_V (C := "HeadDeskModel") 1 hts m_3_120 m_3_122 ms_28 m_1_5 m_3_123 (by decide +kernel) ⟨by decide, by decide⟩) hX hA hP hD hS [0, 1, 2, 3, 4, 5, 6] [] rfl rfl (by decide) (by decide) (by decide) (va_recv hX.1 hP (ci := 4) (q0 := 0) rfl rfl) rfl hl.1 rfl (Nat.le_of_ble_eq_true rfl) d_Mod_target_71 ⟨Nat.zero_le _, Nat.zero_le _⟩ (fun H locs hP hD hS => ?_)
        obtain ⟨s_71, e_71⟩ : ∃ z : MS, z = (mExp s_26 10).2 := ⟨_, rfl⟩
        have i_71 : mInv s_71 := by rw [e_71]; exact inv_exp i_26 (by decide)
        have hP : va_P D vwCl (mdW bd ce s_71) H := by rw [e_71]; exact hP
        have hD : va_D A (mdW bd ce s_71) := by rw [e_71]; exact hD
        refine lv_pop hx hb d_Mod_target_74 rfl ?_
        exact hret H locs s_71 _ _ hP hD hS (by first | (simp only [mTgt, mTgtB, mTgtC, if_pos c_33, if_pos c_37, ← e_3, ← e_10, ← e_18, ← e_21, ← e_26, ← e_71, fStop, if_true, if_false, Bool.false_eq_true, ↓reduceIte]; done) | (simp only [mTgt, mTgtB, mTgtC, if_pos c_33, if_pos c_37, ← e_3, ← e_10, ← e_18, ← e_21, ← e_26, ← e_71, fStop, if_true, if_false, Bool.false_eq_true, ↓reduceIte]; with_reducible rfl) | (simp only [mTgt, mTgtB, mTgtC, if_pos c_33, if_pos c_37, ← e_3, ← e_10, ← e_18, ← e_21, ← e_26, ← e_71, fStop, if_true, if_false, Bool.false_eq_true, ↓reduceIte]; rw [e_71])) d_Mod_target_75
      · skip
        have c_37 : ¬ (x = 0) := c_37
        refine lv_aload_n hx hb d_Mod_target_40 rfl (lv_at hl 0 rfl) ?_
        refine hx_Vi (wr := []) (As := []) (rest := []) hI (c_Mod_see s_26 i_26 ) (cw_V (C := "HeadDeskModel") 0 hts m_3_109 m_3_111 ms_26 m_1_5 m_3_112 (by decide +kernel) ⟨by decide, by decide⟩) hX hA hP hD hS [0, 1, 2, 3, 4, 5, 6] [] rfl rfl (by decide) (by decide) (by decide) (va_recv hX.1 hP (ci := 4) (q0 := 0) rfl rfl) rfl hl.1 rfl (Nat.le_of_ble_eq_true rfl) d_Mod_target_41 ⟨Nat.zero_le _, Nat.zero_le _⟩ (fun H locs hP hD hS => ?_)
        have hP : va_P D vwCl (mdW bd ce s_26) H := hP
        have hD : va_D A (mdW bd ce s_26) := hD
        refine lv_bipush (v := 47) hx hb d_Mod_target_44 (by decide) ?_
        refine lv_icmp_ne (tgt := 68) hx hb d_Mod_target_46 (by decide) (fun c_46 => ?_) (fun c_46 => ?_)
        · skip
          have c_46 : ¬ (mSee s_26 = 47) := c_46
          refine lv_aload_n hx hb d_Mod_target_68 rfl (lv_at hl 0 rfl) ?_
          refine lv_bipush (v := 10) hx hb d_Mod_target_69 (by decide) ?_
          refine hx_Vz (wr := []) (As := [.int 10]) (rest := []) hI (c_Mod_expect s_26 i_26 10 (by decide)) (cw_V (C := "HeadDeskModel") 1 hts m_3_120 m_3_122 ms_28 m_1_5 m_3_123 (by decide +kernel) ⟨by decide, by decide⟩) hX hA hP hD hS [0, 1, 2, 3, 4, 5, 6] [] rfl rfl (by decide) (by decide) (by decide) (va_recv hX.1 hP (ci := 4) (q0 := 0) rfl rfl) rfl hl.1 rfl (Nat.le_of_ble_eq_true rfl) d_Mod_target_71 ⟨Nat.zero_le _, Nat.zero_le _⟩ (fun H locs hP hD hS => ?_)
          obtain ⟨s_71, e_71⟩ : ∃ z : MS, z = (mExp s_26 10).2 := ⟨_, rfl⟩
          have i_71 : mInv s_71 := by rw [e_71]; exact inv_exp i_26 (by decide)
          have hP : va_P D vwCl (mdW bd ce s_71) H := by rw [e_71]; exact hP
          have hD : va_D A (mdW bd ce s_71) := by rw [e_71]; exact hD
          refine lv_pop hx hb d_Mod_target_74 rfl ?_
          exact hret H locs s_71 _ _ hP hD hS (by first | (simp only [mTgt, mTgtB, mTgtC, if_pos c_33, if_neg c_37, if_neg c_46, ← e_3, ← e_10, ← e_18, ← e_21, ← e_26, ← e_71, fStop, if_true, if_false, Bool.false_eq_true, ↓reduceIte]; done) | (simp only [mTgt, mTgtB, mTgtC, if_pos c_33, if_neg c_37, if_neg c_46, ← e_3, ← e_10, ← e_18, ← e_21, ← e_26, ← e_71, fStop, if_true, if_false, Bool.false_eq_true, ↓reduceIte]; with_reducible rfl) | (simp only [mTgt, mTgtB, mTgtC, if_pos c_33, if_neg c_37, if_neg c_46, ← e_3, ← e_10, ← e_18, ← e_21, ← e_26, ← e_71, fStop, if_true, if_false, Bool.false_eq_true, ↓reduceIte]; rw [e_71])) d_Mod_target_75
        · skip
          have c_46 : (mSee s_26 = 47) := c_46
          refine lv_aload_n hx hb d_Mod_target_49 rfl (lv_at hl 0 rfl) ?_
          refine lv_dup hx hb d_Mod_target_50 rfl ?_
          refine va_get (D := D) (ci := 4) (v := .int (gR s_26 3)) (C := "HeadDeskModel") (T := F_Mod) (N := 38) hx hb hts a_Mod hown hX.1 hP 0 rfl rfl 4 (by decide) (hts _ m_2_221) (fun _ h9 => h9) rfl d_Mod_target_51 ?_
          refine lv_iconst (v := 1) hx hb d_Mod_target_54 (by decide) ?_
          refine lv_iadd hx hb d_Mod_target_55 ?_
          refine va_put (D := D) (ci := 4) (v := .int ((gR s_26 3) + 1)) (ty := .int) (C := "HeadDeskModel") (T := F_Mod) (N := 38) hx hb hts a_Mod t_Mod k_Mod n_Mod hown hX.1 hP hD hS 0 rfl rfl 4 (by decide) (hts _ m_2_221) (fun _ h9 => h9) rfl (by decide +kernel) rfl rfl (Nat.le_of_ble_eq_true rfl) d_Mod_target_56 (fun H locs hP hD hS => ?_)
          have hP : va_P D vwCl (mdW bd ce (wR s_26 3 ((gR s_26 3) + 1))) H := hP
          have hD : va_D A (mdW bd ce (wR s_26 3 ((gR s_26 3) + 1))) := hD
          have i_56 : mInv (wR s_26 3 ((gR s_26 3) + 1)) := inv_nx (s := s_26) i_26 (see_lt c_46 (by decide))
          obtain ⟨s_56, e_56⟩ : ∃ z : MS, z = wR s_26 3 ((gR s_26 3) + 1) := ⟨_, rfl⟩
          have hP : va_P D vwCl (mdW bd ce s_56) H := by rw [e_56]; exact hP
          have hD : va_D A (mdW bd ce s_56) := by rw [e_56]; exact hD
          have i_56 : mInv s_56 := by rw [e_56]; exact i_56
          refine lv_aload_n hx hb d_Mod_target_59 rfl (lv_at hl 0 rfl) ?_
          refine lv_aload_n hx hb d_Mod_target_60 rfl (lv_at hl 0 rfl) ?_
          refine lv_iconst (v := 3) hx hb d_Mod_target_61 (by decide) ?_
          refine hx_Vi (wr := []) (As := [.int 3]) (rest := [.ref (bd 0)]) hI (c_Mod_number s_56 i_56 3) (cw_V (C := "HeadDeskModel") 1 hts m_3_134 m_3_136 ms_31 m_1_5 m_3_137 (by decide +kernel) ⟨by decide, by decide⟩) hX hA hP hD hS [0, 1, 2, 3, 4, 5, 6] [] rfl rfl (by decide) (by decide) (by decide) (va_recv hX.1 hP (ci := 4) (q0 := 0) rfl rfl) rfl hl.1 rfl (Nat.le_of_ble_eq_true rfl) d_Mod_target_62 ⟨Nat.zero_le _, Nat.zero_le _⟩ (fun H locs hP hD hS => ?_)
          obtain ⟨s_62, e_62⟩ : ∃ z : MS, z = (mNum s_56 3).2 := ⟨_, rfl⟩
          have i_62 : mInv s_62 := by rw [e_62]; exact inv_num i_56
          have hP : va_P D vwCl (mdW bd ce s_62) H := by rw [e_62]; exact hP
          have hD : va_D A (mdW bd ce s_62) := by rw [e_62]; exact hD
          refine va_put (D := D) (ci := 4) (v := .int ((mNum s_56 3).1)) (ty := .int) (C := "HeadDeskModel") (T := F_Mod) (N := 38) hx hb hts a_Mod t_Mod k_Mod n_Mod hown hX.1 hP hD hS 0 rfl rfl 8 (by decide) (hts _ m_2_225) (fun _ h9 => h9) rfl (by decide +kernel) rfl rfl (Nat.le_of_ble_eq_true rfl) d_Mod_target_65 (fun H locs hP hD hS => ?_)
          have hP : va_P D vwCl (mdW bd ce (wR s_62 7 ((mNum s_56 3).1))) H := hP
          have hD : va_D A (mdW bd ce (wR s_62 7 ((mNum s_56 3).1))) := hD
          obtain ⟨s_65, e_65⟩ : ∃ z : MS, z = wR s_62 7 ((mNum s_56 3).1) := ⟨_, rfl⟩
          have hP : va_P D vwCl (mdW bd ce s_65) H := by rw [e_65]; exact hP
          have hD : va_D A (mdW bd ce s_65) := by rw [e_65]; exact hD
          have i_65 : mInv s_65 := by rw [e_65]; exact i_62
          refine lv_aload_n hx hb d_Mod_target_68 rfl (lv_at hl 0 rfl) ?_
          refine lv_bipush (v := 10) hx hb d_Mod_target_69 (by decide) ?_
          refine hx_Vz (wr := []) (As := [.int 10]) (rest := []) hI (c_Mod_expect s_65 i_65 10 (by decide)) (cw_V (C := "HeadDeskModel") 1 hts m_3_120 m_3_122 ms_28 m_1_5 m_3_123 (by decide +kernel) ⟨by decide, by decide⟩) hX hA hP hD hS [0, 1, 2, 3, 4, 5, 6] [] rfl rfl (by decide) (by decide) (by decide) (va_recv hX.1 hP (ci := 4) (q0 := 0) rfl rfl) rfl hl.1 rfl (Nat.le_of_ble_eq_true rfl) d_Mod_target_71 ⟨Nat.zero_le _, Nat.zero_le _⟩ (fun H locs hP hD hS => ?_)
          obtain ⟨s_71, e_71⟩ : ∃ z : MS, z = (mExp s_65 10).2 := ⟨_, rfl⟩
          have i_71 : mInv s_71 := by rw [e_71]; exact inv_exp i_65 (by decide)
          have hP : va_P D vwCl (mdW bd ce s_71) H := by rw [e_71]; exact hP
          have hD : va_D A (mdW bd ce s_71) := by rw [e_71]; exact hD
          refine lv_pop hx hb d_Mod_target_74 rfl ?_
          exact hret H locs s_71 _ _ hP hD hS (by first | (simp only [mTgt, mTgtB, mTgtC, if_pos c_33, if_neg c_37, if_pos c_46, ← e_3, ← e_10, ← e_18, ← e_21, ← e_26, ← e_56, ← e_62, ← e_65, ← e_71, fStop, if_true, if_false, Bool.false_eq_true, ↓reduceIte]; done) | (simp only [mTgt, mTgtB, mTgtC, if_pos c_33, if_neg c_37, if_pos c_46, ← e_3, ← e_10, ← e_18, ← e_21, ← e_26, ← e_56, ← e_62, ← e_65, ← e_71, fStop, if_true, if_false, Bool.false_eq_true, ↓reduceIte]; with_reducible rfl) | (simp only [mTgt, mTgtB, mTgtC, if_pos c_33, if_neg c_37, if_pos c_46, ← e_3, ← e_10, ← e_18, ← e_21, ← e_26, ← e_56, ← e_62, ← e_65, ← e_71, fStop, if_true, if_false, Bool.false_eq_true, ↓reduceIte]; rw [e_71])) d_Mod_target_75
  rw [hH, hlo] at goal
  exact goal
set_option maxHeartbeats 4000000 in
set_option maxRecDepth 100000 in
theorem c_Mod_anyValue (st : MS) (hv : mInv st)  : hx_Mv l D (tyM ce) adK adV tF (mdW bd ce) y_Mod_anyValue w_Mod_anyValue (rmD 2) [.ref (bd 0)] st (mAnyL 300 st) := by
  refine hx_Mv.of (cc := b_Mod_anyValue) (maxL := 1) (by decide) rfl (Nat.le_of_ble_eq_true rfl) ?_
  intro p e s m below meth c A Q ls hI hX hA hP hD hS hl hret
  obtain ⟨hx, hb, hml, hown, hts⟩ := id hI
  have hts : ∀ w ∈ aw, w.before ([.ref (bd 0)] : List Value).toArray s = true := fun w h => hts w (List.mem_cons_of_mem _ h)
  have hown : s.vm.findClass "HeadDeskModel" = some m.cls := hown
  have hI : hx_In p s m ([.ref (bd 0)] : List Value).toArray c b_Mod_anyValue 1 "HeadDeskModel" aw := ⟨hx, hb, hml, hown, hts⟩
  have hP : va_P D vwCl (mdW bd ce st) s.heap := hP
  obtain ⟨H, hH⟩ : ∃ H, H = s.heap := ⟨_, rfl⟩
  obtain ⟨locs, hlo⟩ : ∃ locs : List Loc, locs = [] := ⟨_, rfl⟩
  have hS : va_S A s.heap H locs := by rw [hH, hlo]; exact hS
  have hP : va_P D vwCl (mdW bd ce st) H := by rw [hH]; exact hP
  have hl : lv_has ls 1 [(0, .ref (bd 0))] := hl
  have goal : W p l e (rmD 2) s m ([.ref (bd 0)] : List Value).toArray below meth c H locs 0 0 Q (F0 m 0 ls []) := by
    have loop0 : ∀ (k : Nat) (s1 : MS) (H : Heap) (locs : List Loc) (ls : Array Slot), (gR s1 1).toInt ≤ (gR s1 3).toInt + (k : Int) → mInv s1 → mAnyL 300 st = mAnyL k s1 → va_P D vwCl (mdW bd ce s1) H → va_D A (mdW bd ce s1) → va_S A s.heap H locs → lv_has ls 1 [(0, .ref (bd 0))] → W p l e (rmD 2) s m ([.ref (bd 0)] : List Value).toArray below meth c H locs 0 0 Q (F0 m 0 ls []) := by
      intro k
      induction k with
      | zero =>
        intro s1 H locs ls hj hv hF hP hD hS hl
        refine lv_aload_n hx hb d_Mod_anyValue_0 rfl (lv_at hl 0 rfl) ?_
        refine hx_Vi (wr := []) (As := []) (rest := []) hI (c_Mod_see s1 hv ) (cw_V (C := "HeadDeskModel") 0 hts m_3_109 m_3_111 ms_26 m_1_5 m_3_112 (by decide +kernel) ⟨by decide, by decide⟩) hX hA hP hD hS [0, 1, 2, 3, 4, 5, 6] [] rfl rfl (by decide) (by decide) (by decide) (va_recv hX.1 hP (ci := 4) (q0 := 0) rfl rfl) rfl hl.1 rfl (Nat.le_of_ble_eq_true rfl) d_Mod_anyValue_1 ⟨Nat.zero_le _, Nat.zero_le _⟩ (fun H locs hP hD hS => ?_)
        have hP : va_P D vwCl (mdW bd ce s1) H := hP
        have hD : va_D A (mdW bd ce s1) := hD
        refine lv_bipush (v := 10) hx hb d_Mod_anyValue_4 (by decide) ?_
        refine lv_icmp_eq (tgt := 33) hx hb d_Mod_anyValue_6 (by decide) (fun c_6 => ?_) (fun c_6 => ?_)
        · skip
          have c_6 : (mSee s1 = 10) := c_6
          exact hret H locs s1 _ _ hP hD hS (by first | (rw [hF]; ((try simp only [mAnyL]) <;> simp only [mAnyL, if_pos c_6, fStop, if_true, if_false, Bool.false_eq_true, ↓reduceIte]); done) | (rw [hF]; ((try simp only [mAnyL]) <;> simp only [mAnyL, if_pos c_6, fStop, if_true, if_false, Bool.false_eq_true, ↓reduceIte]); with_reducible rfl)) d_Mod_anyValue_33
        · skip
          have c_6 : ¬ (mSee s1 = 10) := c_6
          refine lv_aload_n hx hb d_Mod_anyValue_9 rfl (lv_at hl 0 rfl) ?_
          refine va_get (D := D) (ci := 4) (v := .int (gR s1 3)) (C := "HeadDeskModel") (T := F_Mod) (N := 38) hx hb hts a_Mod hown hX.1 hP 0 rfl rfl 4 (by decide) (hts _ m_2_221) (fun _ h9 => h9) rfl d_Mod_anyValue_10 ?_
          refine lv_aload_n hx hb d_Mod_anyValue_13 rfl (lv_at hl 0 rfl) ?_
          refine va_get (D := D) (ci := 4) (v := .int (gR s1 1)) (C := "HeadDeskModel") (T := F_Mod) (N := 38) hx hb hts a_Mod hown hX.1 hP 0 rfl rfl 2 (by decide) (hts _ m_2_219) (fun _ h9 => h9) rfl d_Mod_anyValue_14 ?_
          refine lv_icmp_ge (tgt := 33) hx hb d_Mod_anyValue_17 (by decide) (fun c_17 => ?_) (fun c_17 => ?_)
          · skip
            have c_17 : (gR s1 1 ≤ gR s1 3) := c_17
            exact hret H locs s1 _ _ hP hD hS (by first | (rw [hF]; ((try simp only [mAnyL]) <;> simp only [mAnyL, if_neg c_6, if_pos c_17, fStop, if_true, if_false, Bool.false_eq_true, ↓reduceIte]); done) | (rw [hF]; ((try simp only [mAnyL]) <;> simp only [mAnyL, if_neg c_6, if_pos c_17, fStop, if_true, if_false, Bool.false_eq_true, ↓reduceIte]); with_reducible rfl)) d_Mod_anyValue_33
          · skip
            exact absurd (an_2 hj) c_17
      | succ k ih =>
        intro s1 H locs ls hj hv hF hP hD hS hl
        refine lv_aload_n hx hb d_Mod_anyValue_0 rfl (lv_at hl 0 rfl) ?_
        refine hx_Vi (wr := []) (As := []) (rest := []) hI (c_Mod_see s1 hv ) (cw_V (C := "HeadDeskModel") 0 hts m_3_109 m_3_111 ms_26 m_1_5 m_3_112 (by decide +kernel) ⟨by decide, by decide⟩) hX hA hP hD hS [0, 1, 2, 3, 4, 5, 6] [] rfl rfl (by decide) (by decide) (by decide) (va_recv hX.1 hP (ci := 4) (q0 := 0) rfl rfl) rfl hl.1 rfl (Nat.le_of_ble_eq_true rfl) d_Mod_anyValue_1 ⟨Nat.zero_le _, Nat.zero_le _⟩ (fun H locs hP hD hS => ?_)
        have hP : va_P D vwCl (mdW bd ce s1) H := hP
        have hD : va_D A (mdW bd ce s1) := hD
        refine lv_bipush (v := 10) hx hb d_Mod_anyValue_4 (by decide) ?_
        refine lv_icmp_eq (tgt := 33) hx hb d_Mod_anyValue_6 (by decide) (fun c_6 => ?_) (fun c_6 => ?_)
        · skip
          have c_6 : (mSee s1 = 10) := c_6
          exact hret H locs s1 _ _ hP hD hS (by first | (rw [hF]; ((try simp only [mAnyL]) <;> simp only [mAnyL, if_pos c_6, fStop, if_true, if_false, Bool.false_eq_true, ↓reduceIte]); done) | (rw [hF]; ((try simp only [mAnyL]) <;> simp only [mAnyL, if_pos c_6, fStop, if_true, if_false, Bool.false_eq_true, ↓reduceIte]); with_reducible rfl)) d_Mod_anyValue_33
        · skip
          have c_6 : ¬ (mSee s1 = 10) := c_6
          refine lv_aload_n hx hb d_Mod_anyValue_9 rfl (lv_at hl 0 rfl) ?_
          refine va_get (D := D) (ci := 4) (v := .int (gR s1 3)) (C := "HeadDeskModel") (T := F_Mod) (N := 38) hx hb hts a_Mod hown hX.1 hP 0 rfl rfl 4 (by decide) (hts _ m_2_221) (fun _ h9 => h9) rfl d_Mod_anyValue_10 ?_
          refine lv_aload_n hx hb d_Mod_anyValue_13 rfl (lv_at hl 0 rfl) ?_
          refine va_get (D := D) (ci := 4) (v := .int (gR s1 1)) (C := "HeadDeskModel") (T := F_Mod) (N := 38) hx hb hts a_Mod hown hX.1 hP 0 rfl rfl 2 (by decide) (hts _ m_2_219) (fun _ h9 => h9) rfl d_Mod_anyValue_14 ?_
          refine lv_icmp_ge (tgt := 33) hx hb d_Mod_anyValue_17 (by decide) (fun c_17 => ?_) (fun c_17 => ?_)
          · skip
            have c_17 : (gR s1 1 ≤ gR s1 3) := c_17
            exact hret H locs s1 _ _ hP hD hS (by first | (rw [hF]; ((try simp only [mAnyL]) <;> simp only [mAnyL, if_neg c_6, if_pos c_17, fStop, if_true, if_false, Bool.false_eq_true, ↓reduceIte]); done) | (rw [hF]; ((try simp only [mAnyL]) <;> simp only [mAnyL, if_neg c_6, if_pos c_17, fStop, if_true, if_false, Bool.false_eq_true, ↓reduceIte]); with_reducible rfl)) d_Mod_anyValue_33
          · skip
            have c_17 : ¬ (gR s1 1 ≤ gR s1 3) := c_17
            refine lv_aload_n hx hb d_Mod_anyValue_20 rfl (lv_at hl 0 rfl) ?_
            refine lv_dup hx hb d_Mod_anyValue_21 rfl ?_
            refine va_get (D := D) (ci := 4) (v := .int (gR s1 3)) (C := "HeadDeskModel") (T := F_Mod) (N := 38) hx hb hts a_Mod hown hX.1 hP 0 rfl rfl 4 (by decide) (hts _ m_2_221) (fun _ h9 => h9) rfl d_Mod_anyValue_22 ?_
            refine lv_iconst (v := 1) hx hb d_Mod_anyValue_25 (by decide) ?_
            refine lv_iadd hx hb d_Mod_anyValue_26 ?_
            refine va_put (D := D) (ci := 4) (v := .int ((gR s1 3) + 1)) (ty := .int) (C := "HeadDeskModel") (T := F_Mod) (N := 38) hx hb hts a_Mod t_Mod k_Mod n_Mod hown hX.1 hP hD hS 0 rfl rfl 4 (by decide) (hts _ m_2_221) (fun _ h9 => h9) rfl (by decide +kernel) rfl rfl (Nat.le_of_ble_eq_true rfl) d_Mod_anyValue_27 (fun H locs hP hD hS => ?_)
            have hP : va_P D vwCl (mdW bd ce (wR s1 3 ((gR s1 3) + 1))) H := hP
            have hD : va_D A (mdW bd ce (wR s1 3 ((gR s1 3) + 1))) := hD
            have i_27 : mInv (wR s1 3 ((gR s1 3) + 1)) := inv_nx (s := s1) hv c_17
            obtain ⟨s_27, e_27⟩ : ∃ z : MS, z = wR s1 3 ((gR s1 3) + 1) := ⟨_, rfl⟩
            have hP : va_P D vwCl (mdW bd ce s_27) H := by rw [e_27]; exact hP
            have hD : va_D A (mdW bd ce s_27) := by rw [e_27]; exact hD
            have i_27 : mInv s_27 := by rw [e_27]; exact i_27
            refine lv_goto (tgt := 0) hx hb d_Mod_anyValue_30 (by decide) ?_
            exact ih s_27 H locs ls (by rw [e_27]; exact an_1 hv c_17 hj) i_27 (by rw [hF, mAnyL, if_neg c_6, if_neg c_17, mNx, ← e_27]) hP hD hS (lv_sub hl [0] rfl)
    exact loop0 300  st H locs ls (an_0 hv) hv rfl hP hD hS (lv_sub hl [0] rfl)
  rw [hH, hlo] at goal
  exact goal
