variable {l : Launch} {D : va_G} {bd : Nat → Nat} {ce : Nat → ClassId} {adK adV : Nat → Nat} {tF : Nat} {tys : List (ClassId × FieldType)}

set_option maxHeartbeats 4000000 in
set_option maxRecDepth 100000 in
theorem c_Mod_read (st : MS) (hp : pInv st) (x : Int32) : hx_Mi l D (tyM ce) adK adV tF (mdW bd ce) y_Mod_read w_Mod_read (rmD 10) [.ref (bd 0), .int x] st ((mRead st x).1) ((mRead st x).2) := by
  refine hx_Mi.of (cc := b_Mod_read) (maxL := 2) rfl (by decide) rfl (Nat.le_of_ble_eq_true rfl) ?_
  intro p e s m below meth c A Q ls hI hX hA hP hD hS hl hret
  obtain ⟨hx, hb, hml, hown, hts⟩ := id hI
  have hts : ∀ w ∈ aw, w.before ([.ref (bd 0), .int x] : List Value).toArray s = true := fun w h => hts w (List.mem_cons_of_mem _ h)
  have hown : s.vm.findClass "HeadDeskModel" = some m.cls := hown
  have hI : hx_In p s m ([.ref (bd 0), .int x] : List Value).toArray c b_Mod_read 2 "HeadDeskModel" aw := ⟨hx, hb, hml, hown, hts⟩
  have hP : va_P D vwCl (mdW bd ce st) s.heap := hP
  obtain ⟨H, hH⟩ : ∃ H, H = s.heap := ⟨_, rfl⟩
  obtain ⟨locs, hlo⟩ : ∃ locs : List Loc, locs = [] := ⟨_, rfl⟩
  have hS : va_S A s.heap H locs := by rw [hH, hlo]; exact hS
  have hP : va_P D vwCl (mdW bd ce st) H := by rw [hH]; exact hP
  have hl : lv_has ls 2 [(0, .ref (bd 0)), (1, .int x)] := hl
  have goal : W p l e (rmD 10) s m ([.ref (bd 0), .int x] : List Value).toArray below meth c H locs 0 0 Q (F0 m 0 ls []) := by
    refine lv_aload_n hx hb d_Mod_read_0 rfl (lv_at hl 0 rfl) ?_
    refine lv_iload_n hx hb d_Mod_read_1 rfl (lv_at hl 1 rfl) ?_
    refine lv_if_lt (tgt := 26) hx hb d_Mod_read_2 (by decide) (fun c_2 => ?_) (fun c_2 => ?_)
    · skip
      have c_2 : (x < 0) := c_2
      refine lv_iconst (v := 1) hx hb d_Mod_read_26 (by decide) ?_
      refine lv_goto (tgt := 31) hx hb d_Mod_read_27 (by decide) ?_
      refine va_put (D := D) (ci := 4) (v := .int 1) (ty := .int) (C := "HeadDeskModel") (T := F_Mod) (N := 38) hx hb hts a_Mod t_Mod k_Mod n_Mod hown hX.1 hP hD hS 0 rfl rfl 0 (by decide) (hts _ m_2_217) (fun _ h9 => h9) rfl (by decide +kernel) rfl rfl (Nat.le_of_ble_eq_true rfl) d_Mod_read_31 (fun H locs hP hD hS => ?_)
      have hP : va_P D vwCl (mdW bd ce (wR st 0 1)) H := hP
      have hD : va_D A (mdW bd ce (wR st 0 1)) := hD
      obtain ⟨s_31, e_31⟩ : ∃ z : MS, z = wR st 0 1 := ⟨_, rfl⟩
      have hP : va_P D vwCl (mdW bd ce s_31) H := by rw [e_31]; exact hP
      have hD : va_D A (mdW bd ce s_31) := by rw [e_31]; exact hD
      refine lv_aload_n hx hb d_Mod_read_34 rfl (lv_at hl 0 rfl) ?_
      refine va_get (D := D) (ci := 4) (v := .int (gR s_31 0)) (C := "HeadDeskModel") (T := F_Mod) (N := 38) hx hb hts a_Mod hown hX.1 hP 0 rfl rfl 0 (by decide) (hts _ m_2_217) (fun _ h9 => h9) rfl d_Mod_read_35 ?_
      refine lv_if_le (tgt := 43) hx hb d_Mod_read_38 (by decide) (fun c_38 => ?_) (fun c_38 => ?_)
      · skip
        exact absurd (by rw [e_31] at c_38; exact c_38 : (1 : Int32) ≤ 0) (by decide)
      · skip
        have c_38 : ¬ (gR s_31 0 ≤ 0) := c_38
        refine lv_iconst (v := 0) hx hb d_Mod_read_41 (by decide) ?_
        exact hret H locs s_31 0 _ _ hP hD hS (pr2 (by (try simp only [mRead, if_pos c_2, if_neg c_38, ← e_31, if_true, if_false, Bool.false_eq_true, ↓reduceIte]) <;> (try simp only [mRdB, if_pos c_2, if_neg c_38, ← e_31, if_true, if_false, Bool.false_eq_true, ↓reduceIte]) <;> (try simp only [mRdC, if_pos c_2, if_neg c_38, ← e_31, if_true, if_false, Bool.false_eq_true, ↓reduceIte]) <;> (try simp only [mRdD, if_pos c_2, if_neg c_38, ← e_31, if_true, if_false, Bool.false_eq_true, ↓reduceIte]) <;> (first | done | with_reducible rfl | rw [e_31]))) d_Mod_read_42
    · skip
      have c_2 : ¬ (x < 0) := c_2
      refine lv_iload_n hx hb d_Mod_read_5 rfl (lv_at hl 1 rfl) ?_
      refine lv_iconst (v := 1) hx hb d_Mod_read_6 (by decide) ?_
      refine lv_icmp_gt (tgt := 26) hx hb d_Mod_read_7 (by decide) (fun c_7 => ?_) (fun c_7 => ?_)
      · skip
        have c_7 : (1 < x) := c_7
        refine lv_iconst (v := 1) hx hb d_Mod_read_26 (by decide) ?_
        refine lv_goto (tgt := 31) hx hb d_Mod_read_27 (by decide) ?_
        refine va_put (D := D) (ci := 4) (v := .int 1) (ty := .int) (C := "HeadDeskModel") (T := F_Mod) (N := 38) hx hb hts a_Mod t_Mod k_Mod n_Mod hown hX.1 hP hD hS 0 rfl rfl 0 (by decide) (hts _ m_2_217) (fun _ h9 => h9) rfl (by decide +kernel) rfl rfl (Nat.le_of_ble_eq_true rfl) d_Mod_read_31 (fun H locs hP hD hS => ?_)
        have hP : va_P D vwCl (mdW bd ce (wR st 0 1)) H := hP
        have hD : va_D A (mdW bd ce (wR st 0 1)) := hD
        obtain ⟨s_31, e_31⟩ : ∃ z : MS, z = wR st 0 1 := ⟨_, rfl⟩
        have hP : va_P D vwCl (mdW bd ce s_31) H := by rw [e_31]; exact hP
        have hD : va_D A (mdW bd ce s_31) := by rw [e_31]; exact hD
        refine lv_aload_n hx hb d_Mod_read_34 rfl (lv_at hl 0 rfl) ?_
        refine va_get (D := D) (ci := 4) (v := .int (gR s_31 0)) (C := "HeadDeskModel") (T := F_Mod) (N := 38) hx hb hts a_Mod hown hX.1 hP 0 rfl rfl 0 (by decide) (hts _ m_2_217) (fun _ h9 => h9) rfl d_Mod_read_35 ?_
        refine lv_if_le (tgt := 43) hx hb d_Mod_read_38 (by decide) (fun c_38 => ?_) (fun c_38 => ?_)
        · skip
          exact absurd (by rw [e_31] at c_38; exact c_38 : (1 : Int32) ≤ 0) (by decide)
        · skip
          have c_38 : ¬ (gR s_31 0 ≤ 0) := c_38
          refine lv_iconst (v := 0) hx hb d_Mod_read_41 (by decide) ?_
          exact hret H locs s_31 0 _ _ hP hD hS (pr2 (by (try simp only [mRead, if_neg c_2, if_pos c_7, if_neg c_38, ← e_31, if_true, if_false, Bool.false_eq_true, ↓reduceIte]) <;> (try simp only [mRdB, if_neg c_2, if_pos c_7, if_neg c_38, ← e_31, if_true, if_false, Bool.false_eq_true, ↓reduceIte]) <;> (try simp only [mRdC, if_neg c_2, if_pos c_7, if_neg c_38, ← e_31, if_true, if_false, Bool.false_eq_true, ↓reduceIte]) <;> (try simp only [mRdD, if_neg c_2, if_pos c_7, if_neg c_38, ← e_31, if_true, if_false, Bool.false_eq_true, ↓reduceIte]) <;> (first | done | with_reducible rfl | rw [e_31]))) d_Mod_read_42
      · skip
        have c_7 : ¬ (1 < x) := c_7
        refine lv_aload_n hx hb d_Mod_read_10 rfl (lv_at hl 0 rfl) ?_
        refine lv_iload_n hx hb d_Mod_read_11 rfl (lv_at hl 1 rfl) ?_
        refine lv_if_ne (tgt := 19) hx hb d_Mod_read_12 (by decide) (fun c_12 => ?_) (fun c_12 => ?_)
        · skip
          have c_12 : ¬ (x = 0) := c_12
          refine lv_iconst (v := 0) hx hb d_Mod_read_19 (by decide) ?_
          refine hx_Vz (wr := []) (As := [.int 0]) (rest := [.ref (bd 0)]) hI (c_Mod_readText st hp 0) (cw_V (C := "HeadDeskModel") 1 hts m_3_105 m_3_107 ms_25 m_1_5 m_3_108 (by decide +kernel) ⟨by decide, by decide⟩) hX hA hP hD hS [0, 1, 2, 3, 4, 5, 6] [] rfl rfl (by decide) (by decide) (by decide) (va_recv hX.1 hP (ci := 4) (q0 := 0) rfl rfl) rfl hl.1 rfl (Nat.le_of_ble_eq_true rfl) d_Mod_read_20 ⟨Nat.zero_le _, Nat.zero_le _⟩ (fun H locs hP hD hS => ?_)
          obtain ⟨s_20, e_20⟩ : ∃ z : MS, z = (mTxt st 0).2 := ⟨_, rfl⟩
          have hP : va_P D vwCl (mdW bd ce s_20) H := by rw [e_20]; exact hP
          have hD : va_D A (mdW bd ce s_20) := by rw [e_20]; exact hD
          refine lv_if_ne (tgt := 30) hx hb d_Mod_read_23 (by decide) (fun c_23 => ?_) (fun c_23 => ?_)
          · skip
            have c_23 : ((mTxt st 0).1) = true := bI_1 c_23
            refine lv_iconst (v := 0) hx hb d_Mod_read_30 (by decide) ?_
            refine va_put (D := D) (ci := 4) (v := .int 0) (ty := .int) (C := "HeadDeskModel") (T := F_Mod) (N := 38) hx hb hts a_Mod t_Mod k_Mod n_Mod hown hX.1 hP hD hS 0 rfl rfl 0 (by decide) (hts _ m_2_217) (fun _ h9 => h9) rfl (by decide +kernel) rfl rfl (Nat.le_of_ble_eq_true rfl) d_Mod_read_31 (fun H locs hP hD hS => ?_)
            have hP : va_P D vwCl (mdW bd ce (wR s_20 0 0)) H := hP
            have hD : va_D A (mdW bd ce (wR s_20 0 0)) := hD
            obtain ⟨s_31, e_31⟩ : ∃ z : MS, z = wR s_20 0 0 := ⟨_, rfl⟩
            have hP : va_P D vwCl (mdW bd ce s_31) H := by rw [e_31]; exact hP
            have hD : va_D A (mdW bd ce s_31) := by rw [e_31]; exact hD
            refine lv_aload_n hx hb d_Mod_read_34 rfl (lv_at hl 0 rfl) ?_
            refine va_get (D := D) (ci := 4) (v := .int (gR s_31 0)) (C := "HeadDeskModel") (T := F_Mod) (N := 38) hx hb hts a_Mod hown hX.1 hP 0 rfl rfl 0 (by decide) (hts _ m_2_217) (fun _ h9 => h9) rfl d_Mod_read_35 ?_
            refine lv_if_le (tgt := 43) hx hb d_Mod_read_38 (by decide) (fun c_38 => ?_) (fun c_38 => ?_)
            · skip
              have c_38 : (gR s_31 0 ≤ 0) := c_38
              refine lv_aload_n hx hb d_Mod_read_43 rfl (lv_at hl 0 rfl) ?_
              refine lv_iload_n hx hb d_Mod_read_44 rfl (lv_at hl 1 rfl) ?_
              refine lv_if_ne (tgt := 52) hx hb d_Mod_read_45 (by decide) (fun c_45 => ?_) (fun c_45 => ?_)
              · skip
                have c_45 : ¬ (x = 0) := c_45
                refine lv_iconst (v := 0) hx hb d_Mod_read_52 (by decide) ?_
                refine hx_Vv (wr := []) (As := [.int 0]) (rest := []) hI (c_Mod_keep s_31 (by rw [e_31, e_20]; exact b8_kq (L := [0]) (Kq.wr (by decide)) (by decide) (b8_txt hp)) 0) (cw_V (C := "HeadDeskModel") 1 hts m_3_207 m_3_209 ms_44 m_1_5 m_3_210 (by decide +kernel) ⟨by decide, by decide⟩) hX hA hP hD hS [0, 1, 2, 3, 4, 5, 6] [] rfl rfl (by decide) (by decide) (by decide) (va_recv hX.1 hP (ci := 4) (q0 := 0) rfl rfl) rfl hl.1 rfl (Nat.le_of_ble_eq_true rfl) d_Mod_read_53 ⟨Nat.zero_le _, Nat.zero_le _⟩ (fun H locs hP hD hS => ?_)
                obtain ⟨s_53, e_53⟩ : ∃ z : MS, z = mKeep s_31 0 := ⟨_, rfl⟩
                have hP : va_P D vwCl (mdW bd ce s_53) H := by rw [e_53]; exact hP
                have hD : va_D A (mdW bd ce s_53) := by rw [e_53]; exact hD
                refine lv_aload_n hx hb d_Mod_read_56 rfl (lv_at hl 0 rfl) ?_
                refine lv_dup hx hb d_Mod_read_57 rfl ?_
                refine va_get (D := D) (ci := 4) (v := .int (gR s_53 28)) (C := "HeadDeskModel") (T := F_Mod) (N := 38) hx hb hts a_Mod hown hX.1 hP 0 rfl rfl 34 (by decide) (hts _ m_3_11) (fun _ h9 => h9) rfl d_Mod_read_58 ?_
                refine lv_iconst (v := 1) hx hb d_Mod_read_61 (by decide) ?_
                refine lv_iadd hx hb d_Mod_read_62 ?_
                refine va_put (D := D) (ci := 4) (v := .int ((gR s_53 28) + 1)) (ty := .int) (C := "HeadDeskModel") (T := F_Mod) (N := 38) hx hb hts a_Mod t_Mod k_Mod n_Mod hown hX.1 hP hD hS 0 rfl rfl 34 (by decide) (hts _ m_3_11) (fun _ h9 => h9) rfl (by decide +kernel) rfl rfl (Nat.le_of_ble_eq_true rfl) d_Mod_read_63 (fun H locs hP hD hS => ?_)
                have hP : va_P D vwCl (mdW bd ce (wR s_53 28 ((gR s_53 28) + 1))) H := hP
                have hD : va_D A (mdW bd ce (wR s_53 28 ((gR s_53 28) + 1))) := hD
                obtain ⟨s_63, e_63⟩ : ∃ z : MS, z = wR s_53 28 ((gR s_53 28) + 1) := ⟨_, rfl⟩
                have hP : va_P D vwCl (mdW bd ce s_63) H := by rw [e_63]; exact hP
                have hD : va_D A (mdW bd ce s_63) := by rw [e_63]; exact hD
                refine lv_aload_n hx hb d_Mod_read_66 rfl (lv_at hl 0 rfl) ?_
                refine va_get (D := D) (ci := 4) (v := .int (gR s_63 28)) (C := "HeadDeskModel") (T := F_Mod) (N := 38) hx hb hts a_Mod hown hX.1 hP 0 rfl rfl 34 (by decide) (hts _ m_3_11) (fun _ h9 => h9) rfl d_Mod_read_67 ?_
                exact hret H locs s_63 (gR s_63 28) _ _ hP hD hS (pr2 (by (try simp only [mRead, if_neg c_2, if_neg c_7, if_neg c_12, c_23, if_pos c_38, if_neg c_45, bnM_t c_23, ← e_20, ← e_31, ← e_53, ← e_63, if_true, if_false, Bool.false_eq_true, ↓reduceIte]) <;> (try simp only [mRdB, if_neg c_2, if_neg c_7, if_neg c_12, c_23, if_pos c_38, if_neg c_45, bnM_t c_23, ← e_20, ← e_31, ← e_53, ← e_63, if_true, if_false, Bool.false_eq_true, ↓reduceIte]) <;> (try simp only [mRdC, if_neg c_2, if_neg c_7, if_neg c_12, c_23, if_pos c_38, if_neg c_45, bnM_t c_23, ← e_20, ← e_31, ← e_53, ← e_63, if_true, if_false, Bool.false_eq_true, ↓reduceIte]) <;> (try simp only [mRdD, if_neg c_2, if_neg c_7, if_neg c_12, c_23, if_pos c_38, if_neg c_45, bnM_t c_23, ← e_20, ← e_31, ← e_53, ← e_63, if_true, if_false, Bool.false_eq_true, ↓reduceIte]) <;> (first | done | with_reducible rfl | rw [e_63]))) d_Mod_read_70
              · skip
                exact absurd c_45 c_12
            · skip
              exact absurd (by rw [e_31]; exact (by decide : (0 : Int32) ≤ 0)) c_38
          · skip
            have c_23 : ((mTxt st 0).1) = false := bI_0 c_23
            refine lv_iconst (v := 1) hx hb d_Mod_read_26 (by decide) ?_
            refine lv_goto (tgt := 31) hx hb d_Mod_read_27 (by decide) ?_
            refine va_put (D := D) (ci := 4) (v := .int 1) (ty := .int) (C := "HeadDeskModel") (T := F_Mod) (N := 38) hx hb hts a_Mod t_Mod k_Mod n_Mod hown hX.1 hP hD hS 0 rfl rfl 0 (by decide) (hts _ m_2_217) (fun _ h9 => h9) rfl (by decide +kernel) rfl rfl (Nat.le_of_ble_eq_true rfl) d_Mod_read_31 (fun H locs hP hD hS => ?_)
            have hP : va_P D vwCl (mdW bd ce (wR s_20 0 1)) H := hP
            have hD : va_D A (mdW bd ce (wR s_20 0 1)) := hD
            obtain ⟨s_31, e_31⟩ : ∃ z : MS, z = wR s_20 0 1 := ⟨_, rfl⟩
            have hP : va_P D vwCl (mdW bd ce s_31) H := by rw [e_31]; exact hP
            have hD : va_D A (mdW bd ce s_31) := by rw [e_31]; exact hD
            refine lv_aload_n hx hb d_Mod_read_34 rfl (lv_at hl 0 rfl) ?_
            refine va_get (D := D) (ci := 4) (v := .int (gR s_31 0)) (C := "HeadDeskModel") (T := F_Mod) (N := 38) hx hb hts a_Mod hown hX.1 hP 0 rfl rfl 0 (by decide) (hts _ m_2_217) (fun _ h9 => h9) rfl d_Mod_read_35 ?_
            refine lv_if_le (tgt := 43) hx hb d_Mod_read_38 (by decide) (fun c_38 => ?_) (fun c_38 => ?_)
            · skip
              exact absurd (by rw [e_31] at c_38; exact c_38 : (1 : Int32) ≤ 0) (by decide)
            · skip
              have c_38 : ¬ (gR s_31 0 ≤ 0) := c_38
              refine lv_iconst (v := 0) hx hb d_Mod_read_41 (by decide) ?_
              exact hret H locs s_31 0 _ _ hP hD hS (pr2 (by (try simp only [mRead, if_neg c_2, if_neg c_7, if_neg c_12, c_23, if_neg c_38, bnM_f c_23, ← e_20, ← e_31, if_true, if_false, Bool.false_eq_true, ↓reduceIte]) <;> (try simp only [mRdB, if_neg c_2, if_neg c_7, if_neg c_12, c_23, if_neg c_38, bnM_f c_23, ← e_20, ← e_31, if_true, if_false, Bool.false_eq_true, ↓reduceIte]) <;> (try simp only [mRdC, if_neg c_2, if_neg c_7, if_neg c_12, c_23, if_neg c_38, bnM_f c_23, ← e_20, ← e_31, if_true, if_false, Bool.false_eq_true, ↓reduceIte]) <;> (try simp only [mRdD, if_neg c_2, if_neg c_7, if_neg c_12, c_23, if_neg c_38, bnM_f c_23, ← e_20, ← e_31, if_true, if_false, Bool.false_eq_true, ↓reduceIte]) <;> (first | done | with_reducible rfl | rw [e_31]))) d_Mod_read_42
        · skip
          have c_12 : (x = 0) := c_12
          refine lv_iconst (v := 1) hx hb d_Mod_read_15 (by decide) ?_
          refine lv_goto (tgt := 20) hx hb d_Mod_read_16 (by decide) ?_
          refine hx_Vz (wr := []) (As := [.int 1]) (rest := [.ref (bd 0)]) hI (c_Mod_readText st hp 1) (cw_V (C := "HeadDeskModel") 1 hts m_3_105 m_3_107 ms_25 m_1_5 m_3_108 (by decide +kernel) ⟨by decide, by decide⟩) hX hA hP hD hS [0, 1, 2, 3, 4, 5, 6] [] rfl rfl (by decide) (by decide) (by decide) (va_recv hX.1 hP (ci := 4) (q0 := 0) rfl rfl) rfl hl.1 rfl (Nat.le_of_ble_eq_true rfl) d_Mod_read_20 ⟨Nat.zero_le _, Nat.zero_le _⟩ (fun H locs hP hD hS => ?_)
          obtain ⟨s_20, e_20⟩ : ∃ z : MS, z = (mTxt st 1).2 := ⟨_, rfl⟩
          have hP : va_P D vwCl (mdW bd ce s_20) H := by rw [e_20]; exact hP
          have hD : va_D A (mdW bd ce s_20) := by rw [e_20]; exact hD
          refine lv_if_ne (tgt := 30) hx hb d_Mod_read_23 (by decide) (fun c_23 => ?_) (fun c_23 => ?_)
          · skip
            have c_23 : ((mTxt st 1).1) = true := bI_1 c_23
            refine lv_iconst (v := 0) hx hb d_Mod_read_30 (by decide) ?_
            refine va_put (D := D) (ci := 4) (v := .int 0) (ty := .int) (C := "HeadDeskModel") (T := F_Mod) (N := 38) hx hb hts a_Mod t_Mod k_Mod n_Mod hown hX.1 hP hD hS 0 rfl rfl 0 (by decide) (hts _ m_2_217) (fun _ h9 => h9) rfl (by decide +kernel) rfl rfl (Nat.le_of_ble_eq_true rfl) d_Mod_read_31 (fun H locs hP hD hS => ?_)
            have hP : va_P D vwCl (mdW bd ce (wR s_20 0 0)) H := hP
            have hD : va_D A (mdW bd ce (wR s_20 0 0)) := hD
            obtain ⟨s_31, e_31⟩ : ∃ z : MS, z = wR s_20 0 0 := ⟨_, rfl⟩
            have hP : va_P D vwCl (mdW bd ce s_31) H := by rw [e_31]; exact hP
            have hD : va_D A (mdW bd ce s_31) := by rw [e_31]; exact hD
            refine lv_aload_n hx hb d_Mod_read_34 rfl (lv_at hl 0 rfl) ?_
            refine va_get (D := D) (ci := 4) (v := .int (gR s_31 0)) (C := "HeadDeskModel") (T := F_Mod) (N := 38) hx hb hts a_Mod hown hX.1 hP 0 rfl rfl 0 (by decide) (hts _ m_2_217) (fun _ h9 => h9) rfl d_Mod_read_35 ?_
            refine lv_if_le (tgt := 43) hx hb d_Mod_read_38 (by decide) (fun c_38 => ?_) (fun c_38 => ?_)
            · skip
              have c_38 : (gR s_31 0 ≤ 0) := c_38
              refine lv_aload_n hx hb d_Mod_read_43 rfl (lv_at hl 0 rfl) ?_
              refine lv_iload_n hx hb d_Mod_read_44 rfl (lv_at hl 1 rfl) ?_
              refine lv_if_ne (tgt := 52) hx hb d_Mod_read_45 (by decide) (fun c_45 => ?_) (fun c_45 => ?_)
              · skip
                exact absurd c_12 c_45
              · skip
                have c_45 : (x = 0) := c_45
                refine lv_iconst (v := 1) hx hb d_Mod_read_48 (by decide) ?_
                refine lv_goto (tgt := 53) hx hb d_Mod_read_49 (by decide) ?_
                refine hx_Vv (wr := []) (As := [.int 1]) (rest := []) hI (c_Mod_keep s_31 (by rw [e_31, e_20]; exact b8_kq (L := [0]) (Kq.wr (by decide)) (by decide) (b8_txt hp)) 1) (cw_V (C := "HeadDeskModel") 1 hts m_3_207 m_3_209 ms_44 m_1_5 m_3_210 (by decide +kernel) ⟨by decide, by decide⟩) hX hA hP hD hS [0, 1, 2, 3, 4, 5, 6] [] rfl rfl (by decide) (by decide) (by decide) (va_recv hX.1 hP (ci := 4) (q0 := 0) rfl rfl) rfl hl.1 rfl (Nat.le_of_ble_eq_true rfl) d_Mod_read_53 ⟨Nat.zero_le _, Nat.zero_le _⟩ (fun H locs hP hD hS => ?_)
                obtain ⟨s_53, e_53⟩ : ∃ z : MS, z = mKeep s_31 1 := ⟨_, rfl⟩
                have hP : va_P D vwCl (mdW bd ce s_53) H := by rw [e_53]; exact hP
                have hD : va_D A (mdW bd ce s_53) := by rw [e_53]; exact hD
                refine lv_aload_n hx hb d_Mod_read_56 rfl (lv_at hl 0 rfl) ?_
                refine lv_dup hx hb d_Mod_read_57 rfl ?_
                refine va_get (D := D) (ci := 4) (v := .int (gR s_53 28)) (C := "HeadDeskModel") (T := F_Mod) (N := 38) hx hb hts a_Mod hown hX.1 hP 0 rfl rfl 34 (by decide) (hts _ m_3_11) (fun _ h9 => h9) rfl d_Mod_read_58 ?_
                refine lv_iconst (v := 1) hx hb d_Mod_read_61 (by decide) ?_
                refine lv_iadd hx hb d_Mod_read_62 ?_
                refine va_put (D := D) (ci := 4) (v := .int ((gR s_53 28) + 1)) (ty := .int) (C := "HeadDeskModel") (T := F_Mod) (N := 38) hx hb hts a_Mod t_Mod k_Mod n_Mod hown hX.1 hP hD hS 0 rfl rfl 34 (by decide) (hts _ m_3_11) (fun _ h9 => h9) rfl (by decide +kernel) rfl rfl (Nat.le_of_ble_eq_true rfl) d_Mod_read_63 (fun H locs hP hD hS => ?_)
                have hP : va_P D vwCl (mdW bd ce (wR s_53 28 ((gR s_53 28) + 1))) H := hP
                have hD : va_D A (mdW bd ce (wR s_53 28 ((gR s_53 28) + 1))) := hD
                obtain ⟨s_63, e_63⟩ : ∃ z : MS, z = wR s_53 28 ((gR s_53 28) + 1) := ⟨_, rfl⟩
                have hP : va_P D vwCl (mdW bd ce s_63) H := by rw [e_63]; exact hP
                have hD : va_D A (mdW bd ce s_63) := by rw [e_63]; exact hD
                refine lv_aload_n hx hb d_Mod_read_66 rfl (lv_at hl 0 rfl) ?_
                refine va_get (D := D) (ci := 4) (v := .int (gR s_63 28)) (C := "HeadDeskModel") (T := F_Mod) (N := 38) hx hb hts a_Mod hown hX.1 hP 0 rfl rfl 34 (by decide) (hts _ m_3_11) (fun _ h9 => h9) rfl d_Mod_read_67 ?_
                exact hret H locs s_63 (gR s_63 28) _ _ hP hD hS (pr2 (by (try simp only [mRead, if_neg c_2, if_neg c_7, if_pos c_12, c_23, if_pos c_38, if_pos c_45, bnM_t c_23, ← e_20, ← e_31, ← e_53, ← e_63, if_true, if_false, Bool.false_eq_true, ↓reduceIte]) <;> (try simp only [mRdB, if_neg c_2, if_neg c_7, if_pos c_12, c_23, if_pos c_38, if_pos c_45, bnM_t c_23, ← e_20, ← e_31, ← e_53, ← e_63, if_true, if_false, Bool.false_eq_true, ↓reduceIte]) <;> (try simp only [mRdC, if_neg c_2, if_neg c_7, if_pos c_12, c_23, if_pos c_38, if_pos c_45, bnM_t c_23, ← e_20, ← e_31, ← e_53, ← e_63, if_true, if_false, Bool.false_eq_true, ↓reduceIte]) <;> (try simp only [mRdD, if_neg c_2, if_neg c_7, if_pos c_12, c_23, if_pos c_38, if_pos c_45, bnM_t c_23, ← e_20, ← e_31, ← e_53, ← e_63, if_true, if_false, Bool.false_eq_true, ↓reduceIte]) <;> (first | done | with_reducible rfl | rw [e_63]))) d_Mod_read_70
            · skip
              exact absurd (by rw [e_31]; exact (by decide : (0 : Int32) ≤ 0)) c_38
          · skip
            have c_23 : ((mTxt st 1).1) = false := bI_0 c_23
            refine lv_iconst (v := 1) hx hb d_Mod_read_26 (by decide) ?_
            refine lv_goto (tgt := 31) hx hb d_Mod_read_27 (by decide) ?_
            refine va_put (D := D) (ci := 4) (v := .int 1) (ty := .int) (C := "HeadDeskModel") (T := F_Mod) (N := 38) hx hb hts a_Mod t_Mod k_Mod n_Mod hown hX.1 hP hD hS 0 rfl rfl 0 (by decide) (hts _ m_2_217) (fun _ h9 => h9) rfl (by decide +kernel) rfl rfl (Nat.le_of_ble_eq_true rfl) d_Mod_read_31 (fun H locs hP hD hS => ?_)
            have hP : va_P D vwCl (mdW bd ce (wR s_20 0 1)) H := hP
            have hD : va_D A (mdW bd ce (wR s_20 0 1)) := hD
            obtain ⟨s_31, e_31⟩ : ∃ z : MS, z = wR s_20 0 1 := ⟨_, rfl⟩
            have hP : va_P D vwCl (mdW bd ce s_31) H := by rw [e_31]; exact hP
            have hD : va_D A (mdW bd ce s_31) := by rw [e_31]; exact hD
            refine lv_aload_n hx hb d_Mod_read_34 rfl (lv_at hl 0 rfl) ?_
            refine va_get (D := D) (ci := 4) (v := .int (gR s_31 0)) (C := "HeadDeskModel") (T := F_Mod) (N := 38) hx hb hts a_Mod hown hX.1 hP 0 rfl rfl 0 (by decide) (hts _ m_2_217) (fun _ h9 => h9) rfl d_Mod_read_35 ?_
            refine lv_if_le (tgt := 43) hx hb d_Mod_read_38 (by decide) (fun c_38 => ?_) (fun c_38 => ?_)
            · skip
              exact absurd (by rw [e_31] at c_38; exact c_38 : (1 : Int32) ≤ 0) (by decide)
            · skip
              have c_38 : ¬ (gR s_31 0 ≤ 0) := c_38
              refine lv_iconst (v := 0) hx hb d_Mod_read_41 (by decide) ?_
              exact hret H locs s_31 0 _ _ hP hD hS (pr2 (by (try simp only [mRead, if_neg c_2, if_neg c_7, if_pos c_12, c_23, if_neg c_38, bnM_f c_23, ← e_20, ← e_31, if_true, if_false, Bool.false_eq_true, ↓reduceIte]) <;> (try simp only [mRdB, if_neg c_2, if_neg c_7, if_pos c_12, c_23, if_neg c_38, bnM_f c_23, ← e_20, ← e_31, if_true, if_false, Bool.false_eq_true, ↓reduceIte]) <;> (try simp only [mRdC, if_neg c_2, if_neg c_7, if_pos c_12, c_23, if_neg c_38, bnM_f c_23, ← e_20, ← e_31, if_true, if_false, Bool.false_eq_true, ↓reduceIte]) <;> (try simp only [mRdD, if_neg c_2, if_neg c_7, if_pos c_12, c_23, if_neg c_38, bnM_f c_23, ← e_20, ← e_31, if_true, if_false, Bool.false_eq_true, ↓reduceIte]) <;> (first | done | with_reducible rfl | rw [e_31]))) d_Mod_read_42
  rw [hH, hlo] at goal
  exact goal
set_option maxHeartbeats 4000000 in
set_option maxRecDepth 100000 in
theorem c_Mod_fault (st : MS) : hx_Mi l D (tyM ce) adK adV tF (mdW bd ce) y_Mod_fault w_Mod_fault (rmD 1) [.ref (bd 0)] st ((mFau st).1) ((mFau st).2) := by
  refine hx_Mi.of (cc := b_Mod_fault) (maxL := 1) rfl (by decide) rfl (Nat.le_of_ble_eq_true rfl) ?_
  intro p e s m below meth c A Q ls hI hX hA hP hD hS hl hret
  obtain ⟨hx, hb, hml, hown, hts⟩ := id hI
  have hts : ∀ w ∈ aw, w.before ([.ref (bd 0)] : List Value).toArray s = true := fun w h => hts w (List.mem_cons_of_mem _ h)
  have hown : s.vm.findClass "HeadDeskModel" = some m.cls := hown
  have hI : hx_In p s m ([.ref (bd 0)] : List Value).toArray c b_Mod_fault 1 "HeadDeskModel" aw := ⟨hx, hb, hml, hown, hts⟩
  have hP : va_P D vwCl (mdW bd ce st) s.heap := hP
  obtain ⟨H, hH⟩ : ∃ H, H = s.heap := ⟨_, rfl⟩
  obtain ⟨locs, hlo⟩ : ∃ locs : List Loc, locs = [] := ⟨_, rfl⟩
  have hS : va_S A s.heap H locs := by rw [hH, hlo]; exact hS
  have hP : va_P D vwCl (mdW bd ce st) H := by rw [hH]; exact hP
  have hl : lv_has ls 1 [(0, .ref (bd 0))] := hl
  have goal : W p l e (rmD 1) s m ([.ref (bd 0)] : List Value).toArray below meth c H locs 0 0 Q (F0 m 0 ls []) := by
    refine lv_aload_n hx hb d_Mod_fault_0 rfl (lv_at hl 0 rfl) ?_
    refine lv_iconst (v := 0) hx hb d_Mod_fault_1 (by decide) ?_
    refine va_put (D := D) (ci := 4) (v := .int 0) (ty := .int) (C := "HeadDeskModel") (T := F_Mod) (N := 38) hx hb hts a_Mod t_Mod k_Mod n_Mod hown hX.1 hP hD hS 0 rfl rfl 0 (by decide) (hts _ m_2_217) (fun _ h9 => h9) rfl (by decide +kernel) rfl rfl (Nat.le_of_ble_eq_true rfl) d_Mod_fault_2 (fun H locs hP hD hS => ?_)
    have hP : va_P D vwCl (mdW bd ce (wR st 0 0)) H := hP
    have hD : va_D A (mdW bd ce (wR st 0 0)) := hD
    obtain ⟨s_2, e_2⟩ : ∃ z : MS, z = wR st 0 0 := ⟨_, rfl⟩
    have hP : va_P D vwCl (mdW bd ce s_2) H := by rw [e_2]; exact hP
    have hD : va_D A (mdW bd ce s_2) := by rw [e_2]; exact hD
    refine lv_aload_n hx hb d_Mod_fault_5 rfl (lv_at hl 0 rfl) ?_
    refine va_get (D := D) (ci := 4) (v := .int (gR s_2 2)) (C := "HeadDeskModel") (T := F_Mod) (N := 38) hx hb hts a_Mod hown hX.1 hP 0 rfl rfl 3 (by decide) (hts _ m_2_220) (fun _ h9 => h9) rfl d_Mod_fault_6 ?_
    exact hret H locs s_2 (gR s_2 2) _ _ hP hD hS (pr2 (by (try simp only [mFau, ← e_2, if_true, if_false, Bool.false_eq_true, ↓reduceIte]) <;> (try simp only [mFauB, ← e_2, if_true, if_false, Bool.false_eq_true, ↓reduceIte]) <;> (first | done | with_reducible rfl | rw [e_2]))) d_Mod_fault_9
  rw [hH, hlo] at goal
  exact goal
set_option maxHeartbeats 4000000 in
set_option maxRecDepth 100000 in
theorem c_Mod_told (st : MS) (x : Int32) : hx_Mi l D (tyM ce) adK adV tF (mdW bd ce) y_Mod_told w_Mod_told (rmD 1) [.ref (bd 0), .int x] st ((mTold st x).1) ((mTold st x).2) := by
  refine hx_Mi.of (cc := b_Mod_told) (maxL := 2) rfl (by decide) rfl (Nat.le_of_ble_eq_true rfl) ?_
  intro p e s m below meth c A Q ls hI hX hA hP hD hS hl hret
  obtain ⟨hx, hb, hml, hown, hts⟩ := id hI
  have hts : ∀ w ∈ aw, w.before ([.ref (bd 0), .int x] : List Value).toArray s = true := fun w h => hts w (List.mem_cons_of_mem _ h)
  have hown : s.vm.findClass "HeadDeskModel" = some m.cls := hown
  have hI : hx_In p s m ([.ref (bd 0), .int x] : List Value).toArray c b_Mod_told 2 "HeadDeskModel" aw := ⟨hx, hb, hml, hown, hts⟩
  have hP : va_P D vwCl (mdW bd ce st) s.heap := hP
  obtain ⟨H, hH⟩ : ∃ H, H = s.heap := ⟨_, rfl⟩
  obtain ⟨locs, hlo⟩ : ∃ locs : List Loc, locs = [] := ⟨_, rfl⟩
  have hS : va_S A s.heap H locs := by rw [hH, hlo]; exact hS
  have hP : va_P D vwCl (mdW bd ce st) H := by rw [hH]; exact hP
  have hl : lv_has ls 2 [(0, .ref (bd 0)), (1, .int x)] := hl
  have goal : W p l e (rmD 1) s m ([.ref (bd 0), .int x] : List Value).toArray below meth c H locs 0 0 Q (F0 m 0 ls []) := by
    refine lv_aload_n hx hb d_Mod_told_0 rfl (lv_at hl 0 rfl) ?_
    refine lv_iconst (v := 0) hx hb d_Mod_told_1 (by decide) ?_
    refine va_put (D := D) (ci := 4) (v := .int 0) (ty := .int) (C := "HeadDeskModel") (T := F_Mod) (N := 38) hx hb hts a_Mod t_Mod k_Mod n_Mod hown hX.1 hP hD hS 0 rfl rfl 0 (by decide) (hts _ m_2_217) (fun _ h9 => h9) rfl (by decide +kernel) rfl rfl (Nat.le_of_ble_eq_true rfl) d_Mod_told_2 (fun H locs hP hD hS => ?_)
    have hP : va_P D vwCl (mdW bd ce (wR st 0 0)) H := hP
    have hD : va_D A (mdW bd ce (wR st 0 0)) := hD
    obtain ⟨s_2, e_2⟩ : ∃ z : MS, z = wR st 0 0 := ⟨_, rfl⟩
    have hP : va_P D vwCl (mdW bd ce s_2) H := by rw [e_2]; exact hP
    have hD : va_D A (mdW bd ce s_2) := by rw [e_2]; exact hD
    refine lv_aload_n hx hb d_Mod_told_5 rfl (lv_at hl 0 rfl) ?_
    refine va_get (D := D) (ci := 4) (v := .int (gR s_2 28)) (C := "HeadDeskModel") (T := F_Mod) (N := 38) hx hb hts a_Mod hown hX.1 hP 0 rfl rfl 34 (by decide) (hts _ m_3_11) (fun _ h9 => h9) rfl d_Mod_told_6 ?_
    refine lv_if_eq (tgt := 22) hx hb d_Mod_told_9 (by decide) (fun c_9 => ?_) (fun c_9 => ?_)
    · skip
      have c_9 : (gR s_2 28 = 0) := c_9
      refine lv_iconst (v := (-1)) hx hb d_Mod_told_22 (by decide) ?_
      refine lv_goto (tgt := 32) hx hb d_Mod_told_23 (by decide) ?_
      exact hret H locs s_2 (-1) _ _ hP hD hS (pr2 (by (try simp only [mTold, if_pos c_9, ← e_2, if_true, if_false, Bool.false_eq_true, ↓reduceIte]) <;> (try simp only [mToldB, if_pos c_9, ← e_2, if_true, if_false, Bool.false_eq_true, ↓reduceIte]) <;> (first | done | with_reducible rfl | rw [e_2]))) d_Mod_told_32
    · skip
      have c_9 : ¬ (gR s_2 28 = 0) := c_9
      refine lv_iload_n hx hb d_Mod_told_12 rfl (lv_at hl 1 rfl) ?_
      refine lv_if_lt (tgt := 22) hx hb d_Mod_told_13 (by decide) (fun c_13 => ?_) (fun c_13 => ?_)
      · skip
        have c_13 : (x < 0) := c_13
        refine lv_iconst (v := (-1)) hx hb d_Mod_told_22 (by decide) ?_
        refine lv_goto (tgt := 32) hx hb d_Mod_told_23 (by decide) ?_
        exact hret H locs s_2 (-1) _ _ hP hD hS (pr2 (by (try simp only [mTold, if_neg c_9, if_pos c_13, ← e_2, if_true, if_false, Bool.false_eq_true, ↓reduceIte]) <;> (try simp only [mToldB, if_neg c_9, if_pos c_13, ← e_2, if_true, if_false, Bool.false_eq_true, ↓reduceIte]) <;> (first | done | with_reducible rfl | rw [e_2]))) d_Mod_told_32
      · skip
        have c_13 : ¬ (x < 0) := c_13
        refine lv_iload_n hx hb d_Mod_told_16 rfl (lv_at hl 1 rfl) ?_
        refine lv_bipush (v := 17) hx hb d_Mod_told_17 (by decide) ?_
        refine lv_icmp_le (tgt := 26) hx hb d_Mod_told_19 (by decide) (fun c_19 => ?_) (fun c_19 => ?_)
        · skip
          have c_19 : (x ≤ 17) := c_19
          refine lv_aload_n hx hb d_Mod_told_26 rfl (lv_at hl 0 rfl) ?_
          refine va_get (D := D) (ci := 4) (v := .ref (bd 5)) (C := "HeadDeskModel") (T := F_Mod) (N := 38) hx hb hts a_Mod hown hX.1 hP 0 rfl rfl 31 (by decide) (hts _ m_3_8) (fun _ h9 => h9) rfl d_Mod_told_27 ?_
          refine lv_iload_n hx hb d_Mod_told_30 rfl (lv_at hl 1 rfl) ?_
          refine va_iald hx hb hX.1 hP 5 4 rfl rfl (hix17 c_13 c_19) d_Mod_told_31 ?_
          exact hret H locs s_2 ((gKp s_2) x.toNatClampNeg) _ _ hP hD hS (pr2 (by (try simp only [mTold, if_neg c_9, if_neg c_13, if_pos c_19, ← e_2, if_true, if_false, Bool.false_eq_true, ↓reduceIte]) <;> (try simp only [mToldB, if_neg c_9, if_neg c_13, if_pos c_19, ← e_2, if_true, if_false, Bool.false_eq_true, ↓reduceIte]) <;> (first | done | with_reducible rfl | rw [e_2]))) d_Mod_told_32
        · skip
          have c_19 : ¬ (x ≤ 17) := c_19
          refine lv_iconst (v := (-1)) hx hb d_Mod_told_22 (by decide) ?_
          refine lv_goto (tgt := 32) hx hb d_Mod_told_23 (by decide) ?_
          exact hret H locs s_2 (-1) _ _ hP hD hS (pr2 (by (try simp only [mTold, if_neg c_9, if_neg c_13, if_neg c_19, ← e_2, if_true, if_false, Bool.false_eq_true, ↓reduceIte]) <;> (try simp only [mToldB, if_neg c_9, if_neg c_13, if_neg c_19, ← e_2, if_true, if_false, Bool.false_eq_true, ↓reduceIte]) <;> (first | done | with_reducible rfl | rw [e_2]))) d_Mod_told_32
  rw [hH, hlo] at goal
  exact goal
set_option maxHeartbeats 4000000 in
set_option maxRecDepth 100000 in
theorem c_Mod_matches (st : MS) (hp : pInv st) (x : Int32) : hx_Mz l D (tyM ce) adK adV tF (mdW bd ce) y_Mod_matches w_Mod_matches (rmD 1) [.ref (bd 0), .int x] st ((mMch st x).1) ((mMch st x).2) := by
  refine hx_Mz.of (cc := b_Mod_matches) (maxL := 4) (by decide) rfl (Nat.le_of_ble_eq_true rfl) ?_
  intro p e s m below meth c A Q ls hI hX hA hP hD hS hl hret
  obtain ⟨hx, hb, hml, hown, hts⟩ := id hI
  have hts : ∀ w ∈ aw, w.before ([.ref (bd 0), .int x] : List Value).toArray s = true := fun w h => hts w (List.mem_cons_of_mem _ h)
  have hown : s.vm.findClass "HeadDeskModel" = some m.cls := hown
  have hI : hx_In p s m ([.ref (bd 0), .int x] : List Value).toArray c b_Mod_matches 4 "HeadDeskModel" aw := ⟨hx, hb, hml, hown, hts⟩
  have hP : va_P D vwCl (mdW bd ce st) s.heap := hP
  obtain ⟨H, hH⟩ : ∃ H, H = s.heap := ⟨_, rfl⟩
  obtain ⟨locs, hlo⟩ : ∃ locs : List Loc, locs = [] := ⟨_, rfl⟩
  have hS : va_S A s.heap H locs := by rw [hH, hlo]; exact hS
  have hP : va_P D vwCl (mdW bd ce st) H := by rw [hH]; exact hP
  have hl : lv_has ls 4 [(0, .ref (bd 0)), (1, .int x)] := hl
  have goal : W p l e (rmD 1) s m ([.ref (bd 0), .int x] : List Value).toArray below meth c H locs 0 0 Q (F0 m 0 ls []) := by
    refine lv_aload_n hx hb d_Mod_matches_0 rfl (lv_at hl 0 rfl) ?_
    refine lv_iconst (v := 0) hx hb d_Mod_matches_1 (by decide) ?_
    refine va_put (D := D) (ci := 4) (v := .int 0) (ty := .int) (C := "HeadDeskModel") (T := F_Mod) (N := 38) hx hb hts a_Mod t_Mod k_Mod n_Mod hown hX.1 hP hD hS 0 rfl rfl 0 (by decide) (hts _ m_2_217) (fun _ h9 => h9) rfl (by decide +kernel) rfl rfl (Nat.le_of_ble_eq_true rfl) d_Mod_matches_2 (fun H locs hP hD hS => ?_)
    have hP : va_P D vwCl (mdW bd ce (wR st 0 0)) H := hP
    have hD : va_D A (mdW bd ce (wR st 0 0)) := hD
    obtain ⟨s_2, e_2⟩ : ∃ z : MS, z = wR st 0 0 := ⟨_, rfl⟩
    have hP : va_P D vwCl (mdW bd ce s_2) H := by rw [e_2]; exact hP
    have hD : va_D A (mdW bd ce s_2) := by rw [e_2]; exact hD
    refine lv_aload_n hx hb d_Mod_matches_5 rfl (lv_at hl 0 rfl) ?_
    refine va_get (D := D) (ci := 4) (v := .int (gR s_2 28)) (C := "HeadDeskModel") (T := F_Mod) (N := 38) hx hb hts a_Mod hown hX.1 hP 0 rfl rfl 34 (by decide) (hts _ m_3_11) (fun _ h9 => h9) rfl d_Mod_matches_6 ?_
    refine lv_if_ne (tgt := 14) hx hb d_Mod_matches_9 (by decide) (fun c_9 => ?_) (fun c_9 => ?_)
    · skip
      have c_9 : ¬ (gR s_2 28 = 0) := c_9
      have hb8 : (gR s_2 27).toNatClampNeg ≤ 8 := by rw [e_2]; exact kp8 hp
      refine lv_aload_n hx hb d_Mod_matches_14 rfl (lv_at hl 0 rfl) ?_
      refine va_get (D := D) (ci := 4) (v := .ref (bd 5)) (C := "HeadDeskModel") (T := F_Mod) (N := 38) hx hb hts a_Mod hown hX.1 hP 0 rfl rfl 31 (by decide) (hts _ m_3_8) (fun _ h9 => h9) rfl d_Mod_matches_15 ?_
      refine lv_bipush (v := 6) hx hb d_Mod_matches_18 (by decide) ?_
      refine va_iald hx hb hX.1 hP 5 4 rfl rfl (vp_in_iff.mpr (by decide)) d_Mod_matches_20 ?_
      refine hx_top (v := (gKp s_2) 6) (by first | rfl | (rw [nI_clamp (by omega)])) ?_
      refine lv_iconst (v := 1) hx hb d_Mod_matches_21 (by decide) ?_
      refine lv_icmp_ne (tgt := 29) hx hb d_Mod_matches_22 (by decide) (fun c_22 => ?_) (fun c_22 => ?_)
      · skip
        have c_22 : ¬ ((gKp s_2) 6 = 1) := c_22
        refine lv_iconst (v := 0) hx hb d_Mod_matches_29 (by decide) ?_
        refine lv_istore_n (lv' := [(2, .int 0), (0, .ref (bd 0)), (1, .int x)]) hx hb d_Mod_matches_30 rfl hl (by decide) rfl (fun ls hl => ?_)
        refine lv_iconst (v := 0) hx hb d_Mod_matches_31 (by decide) ?_
        refine lv_istore_n (lv' := [(3, .int 0), (2, .int 0), (0, .ref (bd 0)), (1, .int x)]) hx hb d_Mod_matches_32 rfl hl (by decide) rfl (fun ls hl => ?_)
        have loop33 : ∀ (k : Nat) (j : Nat) (t : Bool) (H : Heap) (locs : List Loc) (ls : Array Slot), j + k = (gR s_2 27).toNatClampNeg → mMch st x = (mcL s_2 x k j t, s_2) → va_P D vwCl (mdW bd ce s_2) H → va_D A (mdW bd ce s_2) → va_S A s.heap H locs → lv_has ls 4 [(3, .int (nI j)), (2, .int (bI t)), (0, .ref (bd 0)), (1, .int x)] → W p l e (rmD 1) s m ([.ref (bd 0), .int x] : List Value).toArray below meth c H locs 0 0 Q (F0 m 33 ls []) := by
          intro k
          induction k with
          | zero =>
            intro j t H locs ls hj hF hP hD hS hl
            refine lv_iload_n hx hb d_Mod_matches_33 rfl (lv_at hl 0 rfl) ?_
            refine lv_aload_n hx hb d_Mod_matches_34 rfl (lv_at hl 2 rfl) ?_
            refine va_get (D := D) (ci := 4) (v := .int (gR s_2 27)) (C := "HeadDeskModel") (T := F_Mod) (N := 38) hx hb hts a_Mod hown hX.1 hP 0 rfl rfl 33 (by decide) (hts _ m_3_10) (fun _ h9 => h9) rfl d_Mod_matches_35 ?_
            refine lv_icmp_ge (tgt := 67) hx hb d_Mod_matches_38 (by decide) (fun c_38 => ?_) (fun c_38 => ?_)
            · skip
              have c_38 : (gR s_2 27 ≤ nI j) := c_38
              refine lv_iload_n hx hb d_Mod_matches_67 rfl (lv_at hl 1 rfl) ?_
              exact hret H locs s_2 t _ _ hP hD hS (pr2 (by rw [hF]; (try simp only [mcL, if_pos c_38, if_true, if_false, Bool.false_eq_true, ↓reduceIte]) <;> (first | done | with_reducible rfl))) d_Mod_matches_68
            · skip
              exact absurd (nI_cyes (by omega) (by have := cl_le (gR s_2 27); omega)) c_38
          | succ k ih =>
            intro j t H locs ls hj hF hP hD hS hl
            refine lv_iload_n hx hb d_Mod_matches_33 rfl (lv_at hl 0 rfl) ?_
            refine lv_aload_n hx hb d_Mod_matches_34 rfl (lv_at hl 2 rfl) ?_
            refine va_get (D := D) (ci := 4) (v := .int (gR s_2 27)) (C := "HeadDeskModel") (T := F_Mod) (N := 38) hx hb hts a_Mod hown hX.1 hP 0 rfl rfl 33 (by decide) (hts _ m_3_10) (fun _ h9 => h9) rfl d_Mod_matches_35 ?_
            refine lv_icmp_ge (tgt := 67) hx hb d_Mod_matches_38 (by decide) (fun c_38 => ?_) (fun c_38 => ?_)
            · skip
              exact absurd c_38 (nI_cno (by omega))
            · skip
              have c_38 : ¬ (gR s_2 27 ≤ nI j) := c_38
              refine lv_iload_n hx hb d_Mod_matches_41 rfl (lv_at hl 1 rfl) ?_
              refine lv_if_ne (tgt := 55) hx hb d_Mod_matches_42 (by decide) (fun c_42 => ?_) (fun c_42 => ?_)
              · skip
                have c_42 : t = true := bI_1 c_42
                refine lv_iconst (v := 1) hx hb d_Mod_matches_55 (by decide) ?_
                refine lv_goto (tgt := 60) hx hb d_Mod_matches_56 (by decide) ?_
                refine lv_istore_n (lv' := [(2, .int 1), (3, .int (nI j)), (0, .ref (bd 0)), (1, .int x)]) hx hb d_Mod_matches_60 rfl hl (by decide) rfl (fun ls hl => ?_)
                refine lv_iinc (v := nI (j + 1)) (lv' := [(3, .int (nI (j + 1))), (2, .int 1), (0, .ref (bd 0)), (1, .int x)]) hx hb d_Mod_matches_61 hl (k := 1) rfl (by rw [nI_succ]; rfl) (by decide) rfl (fun ls hl => ?_)
                refine lv_goto (tgt := 33) hx hb d_Mod_matches_64 (by decide) ?_
                exact ih (j + 1) true H locs ls (by omega) (by rw [hF]; simp only [mcL, if_neg c_38, c_42, Bool.false_eq_true, ↓reduceIte]) hP hD hS (lv_sub hl [0, 1, 2, 3] rfl)
              · skip
                have c_42 : t = false := bI_0 c_42
                refine lv_aload_n hx hb d_Mod_matches_45 rfl (lv_at hl 2 rfl) ?_
                refine va_get (D := D) (ci := 4) (v := .ref (bd 6)) (C := "HeadDeskModel") (T := F_Mod) (N := 38) hx hb hts a_Mod hown hX.1 hP 0 rfl rfl 32 (by decide) (hts _ m_3_9) (fun _ h9 => h9) rfl d_Mod_matches_46 ?_
                refine lv_iload_n hx hb d_Mod_matches_49 rfl (lv_at hl 0 rfl) ?_
                refine va_iald hx hb hX.1 hP 6 5 rfl rfl (vp_in_nI (by omega) (by decide)) d_Mod_matches_50 ?_
                refine hx_top (v := (gKm s_2) j) (by first | rfl | (rw [nI_clamp (by omega)])) ?_
                refine lv_iload_n hx hb d_Mod_matches_51 rfl (lv_at hl 3 rfl) ?_
                refine lv_icmp_ne (tgt := 59) hx hb d_Mod_matches_52 (by decide) (fun c_52 => ?_) (fun c_52 => ?_)
                · skip
                  have c_52 : ¬ ((gKm s_2) j = x) := c_52
                  refine lv_iconst (v := 0) hx hb d_Mod_matches_59 (by decide) ?_
                  refine lv_istore_n (lv' := [(2, .int 0), (3, .int (nI j)), (0, .ref (bd 0)), (1, .int x)]) hx hb d_Mod_matches_60 rfl hl (by decide) rfl (fun ls hl => ?_)
                  refine lv_iinc (v := nI (j + 1)) (lv' := [(3, .int (nI (j + 1))), (2, .int 0), (0, .ref (bd 0)), (1, .int x)]) hx hb d_Mod_matches_61 hl (k := 1) rfl (by rw [nI_succ]; rfl) (by decide) rfl (fun ls hl => ?_)
                  refine lv_goto (tgt := 33) hx hb d_Mod_matches_64 (by decide) ?_
                  exact ih (j + 1) false H locs ls (by omega) (by rw [hF]; simp only [mcL, if_neg c_38, c_42, if_neg c_52, Bool.false_eq_true, ↓reduceIte]) hP hD hS (lv_sub hl [0, 1, 2, 3] rfl)
                · skip
                  have c_52 : ((gKm s_2) j = x) := c_52
                  refine lv_iconst (v := 1) hx hb d_Mod_matches_55 (by decide) ?_
                  refine lv_goto (tgt := 60) hx hb d_Mod_matches_56 (by decide) ?_
                  refine lv_istore_n (lv' := [(2, .int 1), (3, .int (nI j)), (0, .ref (bd 0)), (1, .int x)]) hx hb d_Mod_matches_60 rfl hl (by decide) rfl (fun ls hl => ?_)
                  refine lv_iinc (v := nI (j + 1)) (lv' := [(3, .int (nI (j + 1))), (2, .int 1), (0, .ref (bd 0)), (1, .int x)]) hx hb d_Mod_matches_61 hl (k := 1) rfl (by rw [nI_succ]; rfl) (by decide) rfl (fun ls hl => ?_)
                  refine lv_goto (tgt := 33) hx hb d_Mod_matches_64 (by decide) ?_
                  exact ih (j + 1) true H locs ls (by omega) (by rw [hF]; simp only [mcL, if_neg c_38, c_42, if_pos c_52, Bool.false_eq_true, ↓reduceIte]) hP hD hS (lv_sub hl [0, 1, 2, 3] rfl)
        exact loop33 ((gR s_2 27).toNatClampNeg) 0 false  H locs ls (by omega) (by (try simp only [mMch, if_neg c_9, if_neg c_22, ← e_2, if_true, if_false, Bool.false_eq_true, ↓reduceIte]) <;> (try simp only [mMchB, if_neg c_9, if_neg c_22, ← e_2, if_true, if_false, Bool.false_eq_true, ↓reduceIte]) <;> (first | done | with_reducible rfl | rw [e_2])) hP hD hS (lv_sub hl [0, 1, 2, 3] rfl)
      · skip
        have c_22 : ((gKp s_2) 6 = 1) := c_22
        refine lv_iconst (v := 1) hx hb d_Mod_matches_25 (by decide) ?_
        refine lv_goto (tgt := 30) hx hb d_Mod_matches_26 (by decide) ?_
        refine lv_istore_n (lv' := [(2, .int 1), (0, .ref (bd 0)), (1, .int x)]) hx hb d_Mod_matches_30 rfl hl (by decide) rfl (fun ls hl => ?_)
        refine lv_iconst (v := 0) hx hb d_Mod_matches_31 (by decide) ?_
        refine lv_istore_n (lv' := [(3, .int 0), (2, .int 1), (0, .ref (bd 0)), (1, .int x)]) hx hb d_Mod_matches_32 rfl hl (by decide) rfl (fun ls hl => ?_)
        have loop33 : ∀ (k : Nat) (j : Nat) (t : Bool) (H : Heap) (locs : List Loc) (ls : Array Slot), j + k = (gR s_2 27).toNatClampNeg → mMch st x = (mcL s_2 x k j t, s_2) → va_P D vwCl (mdW bd ce s_2) H → va_D A (mdW bd ce s_2) → va_S A s.heap H locs → lv_has ls 4 [(3, .int (nI j)), (2, .int (bI t)), (0, .ref (bd 0)), (1, .int x)] → W p l e (rmD 1) s m ([.ref (bd 0), .int x] : List Value).toArray below meth c H locs 0 0 Q (F0 m 33 ls []) := by
          intro k
          induction k with
          | zero =>
            intro j t H locs ls hj hF hP hD hS hl
            refine lv_iload_n hx hb d_Mod_matches_33 rfl (lv_at hl 0 rfl) ?_
            refine lv_aload_n hx hb d_Mod_matches_34 rfl (lv_at hl 2 rfl) ?_
            refine va_get (D := D) (ci := 4) (v := .int (gR s_2 27)) (C := "HeadDeskModel") (T := F_Mod) (N := 38) hx hb hts a_Mod hown hX.1 hP 0 rfl rfl 33 (by decide) (hts _ m_3_10) (fun _ h9 => h9) rfl d_Mod_matches_35 ?_
            refine lv_icmp_ge (tgt := 67) hx hb d_Mod_matches_38 (by decide) (fun c_38 => ?_) (fun c_38 => ?_)
            · skip
              have c_38 : (gR s_2 27 ≤ nI j) := c_38
              refine lv_iload_n hx hb d_Mod_matches_67 rfl (lv_at hl 1 rfl) ?_
              exact hret H locs s_2 t _ _ hP hD hS (pr2 (by rw [hF]; (try simp only [mcL, if_pos c_38, if_true, if_false, Bool.false_eq_true, ↓reduceIte]) <;> (first | done | with_reducible rfl))) d_Mod_matches_68
            · skip
              exact absurd (nI_cyes (by omega) (by have := cl_le (gR s_2 27); omega)) c_38
          | succ k ih =>
            intro j t H locs ls hj hF hP hD hS hl
            refine lv_iload_n hx hb d_Mod_matches_33 rfl (lv_at hl 0 rfl) ?_
            refine lv_aload_n hx hb d_Mod_matches_34 rfl (lv_at hl 2 rfl) ?_
            refine va_get (D := D) (ci := 4) (v := .int (gR s_2 27)) (C := "HeadDeskModel") (T := F_Mod) (N := 38) hx hb hts a_Mod hown hX.1 hP 0 rfl rfl 33 (by decide) (hts _ m_3_10) (fun _ h9 => h9) rfl d_Mod_matches_35 ?_
            refine lv_icmp_ge (tgt := 67) hx hb d_Mod_matches_38 (by decide) (fun c_38 => ?_) (fun c_38 => ?_)
            · skip
              exact absurd c_38 (nI_cno (by omega))
            · skip
              have c_38 : ¬ (gR s_2 27 ≤ nI j) := c_38
              refine lv_iload_n hx hb d_Mod_matches_41 rfl (lv_at hl 1 rfl) ?_
              refine lv_if_ne (tgt := 55) hx hb d_Mod_matches_42 (by decide) (fun c_42 => ?_) (fun c_42 => ?_)
              · skip
                have c_42 : t = true := bI_1 c_42
                refine lv_iconst (v := 1) hx hb d_Mod_matches_55 (by decide) ?_
                refine lv_goto (tgt := 60) hx hb d_Mod_matches_56 (by decide) ?_
                refine lv_istore_n (lv' := [(2, .int 1), (3, .int (nI j)), (0, .ref (bd 0)), (1, .int x)]) hx hb d_Mod_matches_60 rfl hl (by decide) rfl (fun ls hl => ?_)
                refine lv_iinc (v := nI (j + 1)) (lv' := [(3, .int (nI (j + 1))), (2, .int 1), (0, .ref (bd 0)), (1, .int x)]) hx hb d_Mod_matches_61 hl (k := 1) rfl (by rw [nI_succ]; rfl) (by decide) rfl (fun ls hl => ?_)
                refine lv_goto (tgt := 33) hx hb d_Mod_matches_64 (by decide) ?_
                exact ih (j + 1) true H locs ls (by omega) (by rw [hF]; simp only [mcL, if_neg c_38, c_42, Bool.false_eq_true, ↓reduceIte]) hP hD hS (lv_sub hl [0, 1, 2, 3] rfl)
              · skip
                have c_42 : t = false := bI_0 c_42
                refine lv_aload_n hx hb d_Mod_matches_45 rfl (lv_at hl 2 rfl) ?_
                refine va_get (D := D) (ci := 4) (v := .ref (bd 6)) (C := "HeadDeskModel") (T := F_Mod) (N := 38) hx hb hts a_Mod hown hX.1 hP 0 rfl rfl 32 (by decide) (hts _ m_3_9) (fun _ h9 => h9) rfl d_Mod_matches_46 ?_
                refine lv_iload_n hx hb d_Mod_matches_49 rfl (lv_at hl 0 rfl) ?_
                refine va_iald hx hb hX.1 hP 6 5 rfl rfl (vp_in_nI (by omega) (by decide)) d_Mod_matches_50 ?_
                refine hx_top (v := (gKm s_2) j) (by first | rfl | (rw [nI_clamp (by omega)])) ?_
                refine lv_iload_n hx hb d_Mod_matches_51 rfl (lv_at hl 3 rfl) ?_
                refine lv_icmp_ne (tgt := 59) hx hb d_Mod_matches_52 (by decide) (fun c_52 => ?_) (fun c_52 => ?_)
                · skip
                  have c_52 : ¬ ((gKm s_2) j = x) := c_52
                  refine lv_iconst (v := 0) hx hb d_Mod_matches_59 (by decide) ?_
                  refine lv_istore_n (lv' := [(2, .int 0), (3, .int (nI j)), (0, .ref (bd 0)), (1, .int x)]) hx hb d_Mod_matches_60 rfl hl (by decide) rfl (fun ls hl => ?_)
                  refine lv_iinc (v := nI (j + 1)) (lv' := [(3, .int (nI (j + 1))), (2, .int 0), (0, .ref (bd 0)), (1, .int x)]) hx hb d_Mod_matches_61 hl (k := 1) rfl (by rw [nI_succ]; rfl) (by decide) rfl (fun ls hl => ?_)
                  refine lv_goto (tgt := 33) hx hb d_Mod_matches_64 (by decide) ?_
                  exact ih (j + 1) false H locs ls (by omega) (by rw [hF]; simp only [mcL, if_neg c_38, c_42, if_neg c_52, Bool.false_eq_true, ↓reduceIte]) hP hD hS (lv_sub hl [0, 1, 2, 3] rfl)
                · skip
                  have c_52 : ((gKm s_2) j = x) := c_52
                  refine lv_iconst (v := 1) hx hb d_Mod_matches_55 (by decide) ?_
                  refine lv_goto (tgt := 60) hx hb d_Mod_matches_56 (by decide) ?_
                  refine lv_istore_n (lv' := [(2, .int 1), (3, .int (nI j)), (0, .ref (bd 0)), (1, .int x)]) hx hb d_Mod_matches_60 rfl hl (by decide) rfl (fun ls hl => ?_)
                  refine lv_iinc (v := nI (j + 1)) (lv' := [(3, .int (nI (j + 1))), (2, .int 1), (0, .ref (bd 0)), (1, .int x)]) hx hb d_Mod_matches_61 hl (k := 1) rfl (by rw [nI_succ]; rfl) (by decide) rfl (fun ls hl => ?_)
                  refine lv_goto (tgt := 33) hx hb d_Mod_matches_64 (by decide) ?_
                  exact ih (j + 1) true H locs ls (by omega) (by rw [hF]; simp only [mcL, if_neg c_38, c_42, if_pos c_52, Bool.false_eq_true, ↓reduceIte]) hP hD hS (lv_sub hl [0, 1, 2, 3] rfl)
        exact loop33 ((gR s_2 27).toNatClampNeg) 0 true  H locs ls (by omega) (by (try simp only [mMch, if_neg c_9, if_pos c_22, ← e_2, if_true, if_false, Bool.false_eq_true, ↓reduceIte]) <;> (try simp only [mMchB, if_neg c_9, if_pos c_22, ← e_2, if_true, if_false, Bool.false_eq_true, ↓reduceIte]) <;> (first | done | with_reducible rfl | rw [e_2])) hP hD hS (lv_sub hl [0, 1, 2, 3] rfl)
    · skip
      have c_9 : (gR s_2 28 = 0) := c_9
      refine lv_iconst (v := 0) hx hb d_Mod_matches_12 (by decide) ?_
      exact hret H locs s_2 false _ _ hP hD hS (pr2 (by (try simp only [mMch, if_pos c_9, ← e_2, if_true, if_false, Bool.false_eq_true, ↓reduceIte]) <;> (try simp only [mMchB, if_pos c_9, ← e_2, if_true, if_false, Bool.false_eq_true, ↓reduceIte]) <;> (first | done | with_reducible rfl | rw [e_2]))) d_Mod_matches_13
  rw [hH, hlo] at goal
  exact goal
set_option maxHeartbeats 4000000 in
set_option maxRecDepth 100000 in
theorem c_Mod_bytes (st : MS) (z y : Int32) : hx_Mi l D (tyM ce) adK adV tF (mdW bd ce) y_Mod_bytes w_Mod_bytes (rmD 1) [.ref (bd 0), .int z, .int y] st ((mByt st z y).1) ((mByt st z y).2) := by
  refine hx_Mi.of (cc := b_Mod_bytes) (maxL := 5) rfl (by decide) rfl (Nat.le_of_ble_eq_true rfl) ?_
  intro p e s m below meth c A Q ls hI hX hA hP hD hS hl hret
  obtain ⟨hx, hb, hml, hown, hts⟩ := id hI
  have hts : ∀ w ∈ aw, w.before ([.ref (bd 0), .int z, .int y] : List Value).toArray s = true := fun w h => hts w (List.mem_cons_of_mem _ h)
  have hown : s.vm.findClass "HeadDeskModel" = some m.cls := hown
  have hI : hx_In p s m ([.ref (bd 0), .int z, .int y] : List Value).toArray c b_Mod_bytes 5 "HeadDeskModel" aw := ⟨hx, hb, hml, hown, hts⟩
  have hP : va_P D vwCl (mdW bd ce st) s.heap := hP
  obtain ⟨H, hH⟩ : ∃ H, H = s.heap := ⟨_, rfl⟩
  obtain ⟨locs, hlo⟩ : ∃ locs : List Loc, locs = [] := ⟨_, rfl⟩
  have hS : va_S A s.heap H locs := by rw [hH, hlo]; exact hS
  have hP : va_P D vwCl (mdW bd ce st) H := by rw [hH]; exact hP
  have hl : lv_has ls 5 [(0, .ref (bd 0)), (1, .int z), (2, .int y)] := hl
  have goal : W p l e (rmD 1) s m ([.ref (bd 0), .int z, .int y] : List Value).toArray below meth c H locs 0 0 Q (F0 m 0 ls []) := by
    refine lv_aload_n hx hb d_Mod_bytes_0 rfl (lv_at hl 0 rfl) ?_
    refine lv_iconst (v := 0) hx hb d_Mod_bytes_1 (by decide) ?_
    refine va_put (D := D) (ci := 4) (v := .int 0) (ty := .int) (C := "HeadDeskModel") (T := F_Mod) (N := 38) hx hb hts a_Mod t_Mod k_Mod n_Mod hown hX.1 hP hD hS 0 rfl rfl 0 (by decide) (hts _ m_2_217) (fun _ h9 => h9) rfl (by decide +kernel) rfl rfl (Nat.le_of_ble_eq_true rfl) d_Mod_bytes_2 (fun H locs hP hD hS => ?_)
    have hP : va_P D vwCl (mdW bd ce (wR st 0 0)) H := hP
    have hD : va_D A (mdW bd ce (wR st 0 0)) := hD
    obtain ⟨s_2, e_2⟩ : ∃ z : MS, z = wR st 0 0 := ⟨_, rfl⟩
    have hP : va_P D vwCl (mdW bd ce s_2) H := by rw [e_2]; exact hP
    have hD : va_D A (mdW bd ce s_2) := by rw [e_2]; exact hD
    refine lv_aload_n hx hb d_Mod_bytes_5 rfl (lv_at hl 0 rfl) ?_
    refine va_get (D := D) (ci := 4) (v := .int (gR s_2 28)) (C := "HeadDeskModel") (T := F_Mod) (N := 38) hx hb hts a_Mod hown hX.1 hP 0 rfl rfl 34 (by decide) (hts _ m_3_11) (fun _ h9 => h9) rfl d_Mod_bytes_6 ?_
    refine lv_if_eq (tgt := 32) hx hb d_Mod_bytes_9 (by decide) (fun c_9 => ?_) (fun c_9 => ?_)
    · skip
      have c_9 : (gR s_2 28 = 0) := c_9
      refine lv_iconst (v := (-1)) hx hb d_Mod_bytes_32 (by decide) ?_
      exact hret H locs s_2 (-1) _ _ hP hD hS (pr2 (by (try simp only [mByt, if_pos c_9, ← e_2, if_true, if_false, Bool.false_eq_true, ↓reduceIte]) <;> (try simp only [mBytB, if_pos c_9, ← e_2, if_true, if_false, Bool.false_eq_true, ↓reduceIte]) <;> (try simp only [mBytC, if_pos c_9, ← e_2, if_true, if_false, Bool.false_eq_true, ↓reduceIte]) <;> (first | done | with_reducible rfl | rw [e_2]))) d_Mod_bytes_33
    · skip
      have c_9 : ¬ (gR s_2 28 = 0) := c_9
      refine lv_iload_n hx hb d_Mod_bytes_12 rfl (lv_at hl 1 rfl) ?_
      refine lv_if_lt (tgt := 32) hx hb d_Mod_bytes_13 (by decide) (fun c_13 => ?_) (fun c_13 => ?_)
      · skip
        have c_13 : (z < 0) := c_13
        refine lv_iconst (v := (-1)) hx hb d_Mod_bytes_32 (by decide) ?_
        exact hret H locs s_2 (-1) _ _ hP hD hS (pr2 (by (try simp only [mByt, if_neg c_9, if_pos c_13, ← e_2, if_true, if_false, Bool.false_eq_true, ↓reduceIte]) <;> (try simp only [mBytB, if_neg c_9, if_pos c_13, ← e_2, if_true, if_false, Bool.false_eq_true, ↓reduceIte]) <;> (try simp only [mBytC, if_neg c_9, if_pos c_13, ← e_2, if_true, if_false, Bool.false_eq_true, ↓reduceIte]) <;> (first | done | with_reducible rfl | rw [e_2]))) d_Mod_bytes_33
      · skip
        have c_13 : ¬ (z < 0) := c_13
        refine lv_iload_n hx hb d_Mod_bytes_16 rfl (lv_at hl 1 rfl) ?_
        refine lv_sipush (v := 255) hx hb d_Mod_bytes_17 (by decide) ?_
        refine lv_icmp_gt (tgt := 32) hx hb d_Mod_bytes_20 (by decide) (fun c_20 => ?_) (fun c_20 => ?_)
        · skip
          have c_20 : (255 < z) := c_20
          refine lv_iconst (v := (-1)) hx hb d_Mod_bytes_32 (by decide) ?_
          exact hret H locs s_2 (-1) _ _ hP hD hS (pr2 (by (try simp only [mByt, if_neg c_9, if_neg c_13, if_pos c_20, ← e_2, if_true, if_false, Bool.false_eq_true, ↓reduceIte]) <;> (try simp only [mBytB, if_neg c_9, if_neg c_13, if_pos c_20, ← e_2, if_true, if_false, Bool.false_eq_true, ↓reduceIte]) <;> (try simp only [mBytC, if_neg c_9, if_neg c_13, if_pos c_20, ← e_2, if_true, if_false, Bool.false_eq_true, ↓reduceIte]) <;> (first | done | with_reducible rfl | rw [e_2]))) d_Mod_bytes_33
        · skip
          have c_20 : ¬ (255 < z) := c_20
          refine lv_iload_n hx hb d_Mod_bytes_23 rfl (lv_at hl 2 rfl) ?_
          refine lv_if_lt (tgt := 32) hx hb d_Mod_bytes_24 (by decide) (fun c_24 => ?_) (fun c_24 => ?_)
          · skip
            have c_24 : (y < 0) := c_24
            refine lv_iconst (v := (-1)) hx hb d_Mod_bytes_32 (by decide) ?_
            exact hret H locs s_2 (-1) _ _ hP hD hS (pr2 (by (try simp only [mByt, if_neg c_9, if_neg c_13, if_neg c_20, if_pos c_24, ← e_2, if_true, if_false, Bool.false_eq_true, ↓reduceIte]) <;> (try simp only [mBytB, if_neg c_9, if_neg c_13, if_neg c_20, if_pos c_24, ← e_2, if_true, if_false, Bool.false_eq_true, ↓reduceIte]) <;> (try simp only [mBytC, if_neg c_9, if_neg c_13, if_neg c_20, if_pos c_24, ← e_2, if_true, if_false, Bool.false_eq_true, ↓reduceIte]) <;> (first | done | with_reducible rfl | rw [e_2]))) d_Mod_bytes_33
          · skip
            have c_24 : ¬ (y < 0) := c_24
            refine lv_iload_n hx hb d_Mod_bytes_27 rfl (lv_at hl 2 rfl) ?_
            refine lv_iconst (v := 2) hx hb d_Mod_bytes_28 (by decide) ?_
            refine lv_icmp_le (tgt := 34) hx hb d_Mod_bytes_29 (by decide) (fun c_29 => ?_) (fun c_29 => ?_)
            · skip
              have c_29 : (y ≤ 2) := c_29
              have jn88 : W p l e (rmD 1) s m ([.ref (bd 0), .int z, .int y] : List Value).toArray below meth c H locs 0 0 Q (F0 m 88 ls [.int (mFi s_2 z)]) := by
                refine lv_istore_n (lv' := [(3, .int (mFi s_2 z)), (0, .ref (bd 0)), (1, .int z), (2, .int y)]) hx hb d_Mod_bytes_88 rfl hl (by decide) rfl (fun ls hl => ?_)
                have jn121 : W p l e (rmD 1) s m ([.ref (bd 0), .int z, .int y] : List Value).toArray below meth c H locs 0 0 Q (F0 m 121 ls [.int (mEn s_2 z)]) := by
                  refine lv_istore (lv' := [(4, .int (mEn s_2 z)), (3, .int (mFi s_2 z)), (0, .ref (bd 0)), (1, .int z), (2, .int y)]) hx hb d_Mod_bytes_121 hl (by decide) rfl (fun ls hl => ?_)
                  refine lv_iload_n hx hb d_Mod_bytes_123 rfl (lv_at hl 1 rfl) ?_
                  refine lv_iload hx hb d_Mod_bytes_124 (lv_at hl 0 rfl) ?_
                  refine lv_icmp_lt (tgt := 140) hx hb d_Mod_bytes_126 (by decide) (fun c_126 => ?_) (fun c_126 => ?_)
                  · skip
                    have c_126 : (mFi s_2 z < mEn s_2 z) := c_126
                    refine lv_iload_n hx hb d_Mod_bytes_140 rfl (lv_at hl 4 rfl) ?_
                    refine lv_if_ne (tgt := 148) hx hb d_Mod_bytes_141 (by decide) (fun c_141 => ?_) (fun c_141 => ?_)
                    · skip
                      have c_141 : ¬ (y = 0) := c_141
                      refine lv_iload_n hx hb d_Mod_bytes_148 rfl (lv_at hl 4 rfl) ?_
                      refine lv_iconst (v := 1) hx hb d_Mod_bytes_149 (by decide) ?_
                      refine lv_icmp_ne (tgt := 160) hx hb d_Mod_bytes_150 (by decide) (fun c_150 => ?_) (fun c_150 => ?_)
                      · skip
                        have c_150 : ¬ (y = 1) := c_150
                        refine lv_iload hx hb d_Mod_bytes_160 (lv_at hl 0 rfl) ?_
                        refine lv_iload_n hx hb d_Mod_bytes_162 rfl (lv_at hl 1 rfl) ?_
                        refine lv_isub hx hb d_Mod_bytes_163 ?_
                        exact hret H locs s_2 ((mEn s_2 z) - (mFi s_2 z)) _ _ hP hD hS (pr2 (by (try simp only [mByt, if_neg c_9, if_neg c_13, if_neg c_20, if_neg c_24, if_pos c_29, if_pos c_126, if_neg c_141, if_neg c_150, ← e_2, if_true, if_false, Bool.false_eq_true, ↓reduceIte]) <;> (try simp only [mBytB, if_neg c_9, if_neg c_13, if_neg c_20, if_neg c_24, if_pos c_29, if_pos c_126, if_neg c_141, if_neg c_150, ← e_2, if_true, if_false, Bool.false_eq_true, ↓reduceIte]) <;> (try simp only [mBytC, if_neg c_9, if_neg c_13, if_neg c_20, if_neg c_24, if_pos c_29, if_pos c_126, if_neg c_141, if_neg c_150, ← e_2, if_true, if_false, Bool.false_eq_true, ↓reduceIte]) <;> (first | done | with_reducible rfl | rw [e_2]))) d_Mod_bytes_164
                      · skip
                        have c_150 : (y = 1) := c_150
                        refine lv_iload hx hb d_Mod_bytes_153 (lv_at hl 0 rfl) ?_
                        refine lv_iconst (v := 1) hx hb d_Mod_bytes_155 (by decide) ?_
                        refine lv_isub hx hb d_Mod_bytes_156 ?_
                        refine lv_goto (tgt := 164) hx hb d_Mod_bytes_157 (by decide) ?_
                        exact hret H locs s_2 ((mEn s_2 z) - 1) _ _ hP hD hS (pr2 (by (try simp only [mByt, if_neg c_9, if_neg c_13, if_neg c_20, if_neg c_24, if_pos c_29, if_pos c_126, if_neg c_141, if_pos c_150, ← e_2, if_true, if_false, Bool.false_eq_true, ↓reduceIte]) <;> (try simp only [mBytB, if_neg c_9, if_neg c_13, if_neg c_20, if_neg c_24, if_pos c_29, if_pos c_126, if_neg c_141, if_pos c_150, ← e_2, if_true, if_false, Bool.false_eq_true, ↓reduceIte]) <;> (try simp only [mBytC, if_neg c_9, if_neg c_13, if_neg c_20, if_neg c_24, if_pos c_29, if_pos c_126, if_neg c_141, if_pos c_150, ← e_2, if_true, if_false, Bool.false_eq_true, ↓reduceIte]) <;> (first | done | with_reducible rfl | rw [e_2]))) d_Mod_bytes_164
                    · skip
                      have c_141 : (y = 0) := c_141
                      refine lv_iload_n hx hb d_Mod_bytes_144 rfl (lv_at hl 1 rfl) ?_
                      refine lv_goto (tgt := 164) hx hb d_Mod_bytes_145 (by decide) ?_
                      exact hret H locs s_2 (mFi s_2 z) _ _ hP hD hS (pr2 (by (try simp only [mByt, if_neg c_9, if_neg c_13, if_neg c_20, if_neg c_24, if_pos c_29, if_pos c_126, if_pos c_141, ← e_2, if_true, if_false, Bool.false_eq_true, ↓reduceIte]) <;> (try simp only [mBytB, if_neg c_9, if_neg c_13, if_neg c_20, if_neg c_24, if_pos c_29, if_pos c_126, if_pos c_141, ← e_2, if_true, if_false, Bool.false_eq_true, ↓reduceIte]) <;> (try simp only [mBytC, if_neg c_9, if_neg c_13, if_neg c_20, if_neg c_24, if_pos c_29, if_pos c_126, if_pos c_141, ← e_2, if_true, if_false, Bool.false_eq_true, ↓reduceIte]) <;> (first | done | with_reducible rfl | rw [e_2]))) d_Mod_bytes_164
                  · skip
                    have c_126 : ¬ (mFi s_2 z < mEn s_2 z) := c_126
                    refine lv_iload_n hx hb d_Mod_bytes_129 rfl (lv_at hl 4 rfl) ?_
                    refine lv_iconst (v := 2) hx hb d_Mod_bytes_130 (by decide) ?_
                    refine lv_icmp_ne (tgt := 138) hx hb d_Mod_bytes_131 (by decide) (fun c_131 => ?_) (fun c_131 => ?_)
                    · skip
                      have c_131 : ¬ (y = 2) := c_131
                      refine lv_iconst (v := (-1)) hx hb d_Mod_bytes_138 (by decide) ?_
                      exact hret H locs s_2 (-1) _ _ hP hD hS (pr2 (by (try simp only [mByt, if_neg c_9, if_neg c_13, if_neg c_20, if_neg c_24, if_pos c_29, if_neg c_126, if_neg c_131, ← e_2, if_true, if_false, Bool.false_eq_true, ↓reduceIte]) <;> (try simp only [mBytB, if_neg c_9, if_neg c_13, if_neg c_20, if_neg c_24, if_pos c_29, if_neg c_126, if_neg c_131, ← e_2, if_true, if_false, Bool.false_eq_true, ↓reduceIte]) <;> (try simp only [mBytC, if_neg c_9, if_neg c_13, if_neg c_20, if_neg c_24, if_pos c_29, if_neg c_126, if_neg c_131, ← e_2, if_true, if_false, Bool.false_eq_true, ↓reduceIte]) <;> (first | done | with_reducible rfl | rw [e_2]))) d_Mod_bytes_139
                    · skip
                      have c_131 : (y = 2) := c_131
                      refine lv_iconst (v := 0) hx hb d_Mod_bytes_134 (by decide) ?_
                      refine lv_goto (tgt := 139) hx hb d_Mod_bytes_135 (by decide) ?_
                      exact hret H locs s_2 0 _ _ hP hD hS (pr2 (by (try simp only [mByt, if_neg c_9, if_neg c_13, if_neg c_20, if_neg c_24, if_pos c_29, if_neg c_126, if_pos c_131, ← e_2, if_true, if_false, Bool.false_eq_true, ↓reduceIte]) <;> (try simp only [mBytB, if_neg c_9, if_neg c_13, if_neg c_20, if_neg c_24, if_pos c_29, if_neg c_126, if_pos c_131, ← e_2, if_true, if_false, Bool.false_eq_true, ↓reduceIte]) <;> (try simp only [mBytC, if_neg c_9, if_neg c_13, if_neg c_20, if_neg c_24, if_pos c_29, if_neg c_126, if_pos c_131, ← e_2, if_true, if_false, Bool.false_eq_true, ↓reduceIte]) <;> (first | done | with_reducible rfl | rw [e_2]))) d_Mod_bytes_139
                refine lv_aload_n hx hb d_Mod_bytes_89 rfl (lv_at hl 1 rfl) ?_
                refine va_get (D := D) (ci := 4) (v := .ref (bd 5)) (C := "HeadDeskModel") (T := F_Mod) (N := 38) hx hb hts a_Mod hown hX.1 hP 0 rfl rfl 31 (by decide) (hts _ m_3_8) (fun _ h9 => h9) rfl d_Mod_bytes_90 ?_
                refine lv_iconst (v := 3) hx hb d_Mod_bytes_93 (by decide) ?_
                refine va_iald hx hb hX.1 hP 5 4 rfl rfl (vp_in_iff.mpr (by decide)) d_Mod_bytes_94 ?_
                refine hx_top (v := (gKp s_2) 3) (by first | rfl | (rw [nI_clamp (by omega)])) ?_
                refine lv_iconst (v := 1) hx hb d_Mod_bytes_95 (by decide) ?_
                refine lv_icmp_ne (tgt := 120) hx hb d_Mod_bytes_96 (by decide) (fun c_96 => ?_) (fun c_96 => ?_)
                · skip
                  have c_96 : ¬ ((gKp s_2) 3 = 1) := c_96
                  refine lv_iload_n hx hb d_Mod_bytes_120 rfl (lv_at hl 2 rfl) ?_
                  refine hx_top (v := mEn s_2 z) (by simp only [mEn, if_neg c_9, if_neg c_13, if_neg c_20, if_neg c_24, if_pos c_29, if_neg c_96, ↓reduceIte]) ?_
                  exact jn121
                · skip
                  have c_96 : ((gKp s_2) 3 = 1) := c_96
                  refine lv_aload_n hx hb d_Mod_bytes_99 rfl (lv_at hl 1 rfl) ?_
                  refine va_get (D := D) (ci := 4) (v := .ref (bd 5)) (C := "HeadDeskModel") (T := F_Mod) (N := 38) hx hb hts a_Mod hown hX.1 hP 0 rfl rfl 31 (by decide) (hts _ m_3_8) (fun _ h9 => h9) rfl d_Mod_bytes_100 ?_
                  refine lv_iconst (v := 5) hx hb d_Mod_bytes_103 (by decide) ?_
                  refine va_iald hx hb hX.1 hP 5 4 rfl rfl (vp_in_iff.mpr (by decide)) d_Mod_bytes_104 ?_
                  refine hx_top (v := (gKp s_2) 5) (by first | rfl | (rw [nI_clamp (by omega)])) ?_
                  refine lv_iload_n hx hb d_Mod_bytes_105 rfl (lv_at hl 2 rfl) ?_
                  refine lv_icmp_ge (tgt := 120) hx hb d_Mod_bytes_106 (by decide) (fun c_106 => ?_) (fun c_106 => ?_)
                  · skip
                    have c_106 : (z ≤ (gKp s_2) 5) := c_106
                    refine lv_iload_n hx hb d_Mod_bytes_120 rfl (lv_at hl 2 rfl) ?_
                    refine hx_top (v := mEn s_2 z) (by simp only [mEn, if_neg c_9, if_neg c_13, if_neg c_20, if_neg c_24, if_pos c_29, if_pos c_96, if_pos c_106, ↓reduceIte]) ?_
                    exact jn121
                  · skip
                    have c_106 : ¬ (z ≤ (gKp s_2) 5) := c_106
                    refine lv_aload_n hx hb d_Mod_bytes_109 rfl (lv_at hl 1 rfl) ?_
                    refine va_get (D := D) (ci := 4) (v := .ref (bd 5)) (C := "HeadDeskModel") (T := F_Mod) (N := 38) hx hb hts a_Mod hown hX.1 hP 0 rfl rfl 31 (by decide) (hts _ m_3_8) (fun _ h9 => h9) rfl d_Mod_bytes_110 ?_
                    refine lv_iconst (v := 5) hx hb d_Mod_bytes_113 (by decide) ?_
                    refine va_iald hx hb hX.1 hP 5 4 rfl rfl (vp_in_iff.mpr (by decide)) d_Mod_bytes_114 ?_
                    refine hx_top (v := (gKp s_2) 5) (by first | rfl | (rw [nI_clamp (by omega)])) ?_
                    refine lv_iconst (v := 1) hx hb d_Mod_bytes_115 (by decide) ?_
                    refine lv_iadd hx hb d_Mod_bytes_116 ?_
                    refine lv_goto (tgt := 121) hx hb d_Mod_bytes_117 (by decide) ?_
                    refine hx_top (v := mEn s_2 z) (by simp only [mEn, if_neg c_9, if_neg c_13, if_neg c_20, if_neg c_24, if_pos c_29, if_pos c_96, if_neg c_106, ↓reduceIte]) ?_
                    exact jn121
              refine lv_aload_n hx hb d_Mod_bytes_34 rfl (lv_at hl 0 rfl) ?_
              refine va_get (D := D) (ci := 4) (v := .ref (bd 5)) (C := "HeadDeskModel") (T := F_Mod) (N := 38) hx hb hts a_Mod hown hX.1 hP 0 rfl rfl 31 (by decide) (hts _ m_3_8) (fun _ h9 => h9) rfl d_Mod_bytes_35 ?_
              refine lv_iconst (v := 3) hx hb d_Mod_bytes_38 (by decide) ?_
              refine va_iald hx hb hX.1 hP 5 4 rfl rfl (vp_in_iff.mpr (by decide)) d_Mod_bytes_39 ?_
              refine hx_top (v := (gKp s_2) 3) (by first | rfl | (rw [nI_clamp (by omega)])) ?_
              refine lv_if_ne (tgt := 47) hx hb d_Mod_bytes_40 (by decide) (fun c_40 => ?_) (fun c_40 => ?_)
              · skip
                have c_40 : ¬ ((gKp s_2) 3 = 0) := c_40
                refine lv_aload_n hx hb d_Mod_bytes_47 rfl (lv_at hl 0 rfl) ?_
                refine va_get (D := D) (ci := 4) (v := .ref (bd 5)) (C := "HeadDeskModel") (T := F_Mod) (N := 38) hx hb hts a_Mod hown hX.1 hP 0 rfl rfl 31 (by decide) (hts _ m_3_8) (fun _ h9 => h9) rfl d_Mod_bytes_48 ?_
                refine lv_iconst (v := 3) hx hb d_Mod_bytes_51 (by decide) ?_
                refine va_iald hx hb hX.1 hP 5 4 rfl rfl (vp_in_iff.mpr (by decide)) d_Mod_bytes_52 ?_
                refine hx_top (v := (gKp s_2) 3) (by first | rfl | (rw [nI_clamp (by omega)])) ?_
                refine lv_iconst (v := 3) hx hb d_Mod_bytes_53 (by decide) ?_
                refine lv_icmp_ge (tgt := 66) hx hb d_Mod_bytes_54 (by decide) (fun c_54 => ?_) (fun c_54 => ?_)
                · skip
                  have c_54 : (3 ≤ (gKp s_2) 3) := c_54
                  refine lv_aload_n hx hb d_Mod_bytes_66 rfl (lv_at hl 0 rfl) ?_
                  refine va_get (D := D) (ci := 4) (v := .ref (bd 5)) (C := "HeadDeskModel") (T := F_Mod) (N := 38) hx hb hts a_Mod hown hX.1 hP 0 rfl rfl 31 (by decide) (hts _ m_3_8) (fun _ h9 => h9) rfl d_Mod_bytes_67 ?_
                  refine lv_iconst (v := 4) hx hb d_Mod_bytes_70 (by decide) ?_
                  refine va_iald hx hb hX.1 hP 5 4 rfl rfl (vp_in_iff.mpr (by decide)) d_Mod_bytes_71 ?_
                  refine hx_top (v := (gKp s_2) 4) (by first | rfl | (rw [nI_clamp (by omega)])) ?_
                  refine lv_iload_n hx hb d_Mod_bytes_72 rfl (lv_at hl 1 rfl) ?_
                  refine lv_icmp_ge (tgt := 87) hx hb d_Mod_bytes_73 (by decide) (fun c_73 => ?_) (fun c_73 => ?_)
                  · skip
                    have c_73 : (z ≤ (gKp s_2) 4) := c_73
                    refine lv_iconst (v := 0) hx hb d_Mod_bytes_87 (by decide) ?_
                    refine hx_top (v := mFi s_2 z) (by simp only [mFi, if_neg c_9, if_neg c_13, if_neg c_20, if_neg c_24, if_pos c_29, if_neg c_40, if_pos c_54, if_pos c_73, ↓reduceIte]) ?_
                    exact jn88
                  · skip
                    have c_73 : ¬ (z ≤ (gKp s_2) 4) := c_73
                    refine lv_iload_n hx hb d_Mod_bytes_76 rfl (lv_at hl 1 rfl) ?_
                    refine lv_aload_n hx hb d_Mod_bytes_77 rfl (lv_at hl 0 rfl) ?_
                    refine va_get (D := D) (ci := 4) (v := .ref (bd 5)) (C := "HeadDeskModel") (T := F_Mod) (N := 38) hx hb hts a_Mod hown hX.1 hP 0 rfl rfl 31 (by decide) (hts _ m_3_8) (fun _ h9 => h9) rfl d_Mod_bytes_78 ?_
                    refine lv_iconst (v := 4) hx hb d_Mod_bytes_81 (by decide) ?_
                    refine va_iald hx hb hX.1 hP 5 4 rfl rfl (vp_in_iff.mpr (by decide)) d_Mod_bytes_82 ?_
                    refine hx_top (v := (gKp s_2) 4) (by first | rfl | (rw [nI_clamp (by omega)])) ?_
                    refine lv_isub hx hb d_Mod_bytes_83 ?_
                    refine lv_goto (tgt := 88) hx hb d_Mod_bytes_84 (by decide) ?_
                    refine hx_top (v := mFi s_2 z) (by simp only [mFi, if_neg c_9, if_neg c_13, if_neg c_20, if_neg c_24, if_pos c_29, if_neg c_40, if_pos c_54, if_neg c_73, ↓reduceIte]) ?_
                    exact jn88
                · skip
                  have c_54 : ¬ (3 ≤ (gKp s_2) 3) := c_54
                  refine lv_aload_n hx hb d_Mod_bytes_57 rfl (lv_at hl 0 rfl) ?_
                  refine va_get (D := D) (ci := 4) (v := .ref (bd 5)) (C := "HeadDeskModel") (T := F_Mod) (N := 38) hx hb hts a_Mod hown hX.1 hP 0 rfl rfl 31 (by decide) (hts _ m_3_8) (fun _ h9 => h9) rfl d_Mod_bytes_58 ?_
                  refine lv_iconst (v := 4) hx hb d_Mod_bytes_61 (by decide) ?_
                  refine va_iald hx hb hX.1 hP 5 4 rfl rfl (vp_in_iff.mpr (by decide)) d_Mod_bytes_62 ?_
                  refine hx_top (v := (gKp s_2) 4) (by first | rfl | (rw [nI_clamp (by omega)])) ?_
                  refine lv_goto (tgt := 88) hx hb d_Mod_bytes_63 (by decide) ?_
                  refine hx_top (v := mFi s_2 z) (by simp only [mFi, if_neg c_9, if_neg c_13, if_neg c_20, if_neg c_24, if_pos c_29, if_neg c_40, if_neg c_54, ↓reduceIte]) ?_
                  exact jn88
              · skip
                have c_40 : ((gKp s_2) 3 = 0) := c_40
                refine lv_iconst (v := 0) hx hb d_Mod_bytes_43 (by decide) ?_
                refine lv_goto (tgt := 88) hx hb d_Mod_bytes_44 (by decide) ?_
                refine hx_top (v := mFi s_2 z) (by simp only [mFi, if_neg c_9, if_neg c_13, if_neg c_20, if_neg c_24, if_pos c_29, if_pos c_40, ↓reduceIte]) ?_
                exact jn88
            · skip
              have c_29 : ¬ (y ≤ 2) := c_29
              refine lv_iconst (v := (-1)) hx hb d_Mod_bytes_32 (by decide) ?_
              exact hret H locs s_2 (-1) _ _ hP hD hS (pr2 (by (try simp only [mByt, if_neg c_9, if_neg c_13, if_neg c_20, if_neg c_24, if_neg c_29, ← e_2, if_true, if_false, Bool.false_eq_true, ↓reduceIte]) <;> (try simp only [mBytB, if_neg c_9, if_neg c_13, if_neg c_20, if_neg c_24, if_neg c_29, ← e_2, if_true, if_false, Bool.false_eq_true, ↓reduceIte]) <;> (try simp only [mBytC, if_neg c_9, if_neg c_13, if_neg c_20, if_neg c_24, if_neg c_29, ← e_2, if_true, if_false, Bool.false_eq_true, ↓reduceIte]) <;> (first | done | with_reducible rfl | rw [e_2]))) d_Mod_bytes_33
  rw [hH, hlo] at goal
  exact goal
set_option maxHeartbeats 4000000 in
set_option maxRecDepth 100000 in
theorem c_Mod_type (st : MS) (hp : pInv st) (q : Int64) (x : Int32) : hx_Mz l D (tyM ce) adK adV tF (mdW bd ce) y_Mod_type w_Mod_type (rmD 1) [.ref (bd 0), .long q, .int x] st ((mTyp st q x).1) ((mTyp st q x).2) := by
  refine hx_Mz.of (cc := b_Mod_type) (maxL := 6) (by decide) rfl (Nat.le_of_ble_eq_true rfl) ?_
  intro p e s m below meth c A Q ls hI hX hA hP hD hS hl hret
  obtain ⟨hx, hb, hml, hown, hts⟩ := id hI
  have hts : ∀ w ∈ aw, w.before ([.ref (bd 0), .long q, .int x] : List Value).toArray s = true := fun w h => hts w (List.mem_cons_of_mem _ h)
  have hown : s.vm.findClass "HeadDeskModel" = some m.cls := hown
  have hI : hx_In p s m ([.ref (bd 0), .long q, .int x] : List Value).toArray c b_Mod_type 6 "HeadDeskModel" aw := ⟨hx, hb, hml, hown, hts⟩
  have hP : va_P D vwCl (mdW bd ce st) s.heap := hP
  obtain ⟨H, hH⟩ : ∃ H, H = s.heap := ⟨_, rfl⟩
  obtain ⟨locs, hlo⟩ : ∃ locs : List Loc, locs = [] := ⟨_, rfl⟩
  have hS : va_S A s.heap H locs := by rw [hH, hlo]; exact hS
  have hP : va_P D vwCl (mdW bd ce st) H := by rw [hH]; exact hP
  have hl : lv_has ls 6 [(0, .ref (bd 0)), (1, .long q), (3, .int x)] := hl
  have goal : W p l e (rmD 1) s m ([.ref (bd 0), .long q, .int x] : List Value).toArray below meth c H locs 0 0 Q (F0 m 0 ls []) := by
    refine lv_aload_n hx hb d_Mod_type_0 rfl (lv_at hl 0 rfl) ?_
    refine lv_iconst (v := 0) hx hb d_Mod_type_1 (by decide) ?_
    refine va_put (D := D) (ci := 4) (v := .int 0) (ty := .int) (C := "HeadDeskModel") (T := F_Mod) (N := 38) hx hb hts a_Mod t_Mod k_Mod n_Mod hown hX.1 hP hD hS 0 rfl rfl 0 (by decide) (hts _ m_2_217) (fun _ h9 => h9) rfl (by decide +kernel) rfl rfl (Nat.le_of_ble_eq_true rfl) d_Mod_type_2 (fun H locs hP hD hS => ?_)
    have hP : va_P D vwCl (mdW bd ce (wR st 0 0)) H := hP
    have hD : va_D A (mdW bd ce (wR st 0 0)) := hD
    obtain ⟨s_2, e_2⟩ : ∃ z : MS, z = wR st 0 0 := ⟨_, rfl⟩
    have hP : va_P D vwCl (mdW bd ce s_2) H := by rw [e_2]; exact hP
    have hD : va_D A (mdW bd ce s_2) := by rw [e_2]; exact hD
    refine lv_iload_n hx hb d_Mod_type_5 rfl (lv_at hl 2 rfl) ?_
    refine lv_iconst (v := 1) hx hb d_Mod_type_6 (by decide) ?_
    refine lv_icmp_lt (tgt := 28) hx hb d_Mod_type_7 (by decide) (fun c_7 => ?_) (fun c_7 => ?_)
    · skip
      have c_7 : (x < 1) := c_7
      refine lv_iconst (v := 0) hx hb d_Mod_type_28 (by decide) ?_
      exact hret H locs s_2 false _ _ hP hD hS (pr2 (by (try simp only [mTyp, if_pos c_7, ← e_2, if_true, if_false, Bool.false_eq_true, ↓reduceIte]) <;> (try simp only [mTypB, if_pos c_7, ← e_2, if_true, if_false, Bool.false_eq_true, ↓reduceIte]) <;> (first | done | with_reducible rfl | rw [e_2]))) d_Mod_type_29
    · skip
      have c_7 : ¬ (x < 1) := c_7
      refine lv_iload_n hx hb d_Mod_type_10 rfl (lv_at hl 2 rfl) ?_
      refine lv_bipush (v := 8) hx hb d_Mod_type_11 (by decide) ?_
      refine lv_icmp_gt (tgt := 28) hx hb d_Mod_type_13 (by decide) (fun c_13 => ?_) (fun c_13 => ?_)
      · skip
        have c_13 : (8 < x) := c_13
        refine lv_iconst (v := 0) hx hb d_Mod_type_28 (by decide) ?_
        exact hret H locs s_2 false _ _ hP hD hS (pr2 (by (try simp only [mTyp, if_neg c_7, if_pos c_13, ← e_2, if_true, if_false, Bool.false_eq_true, ↓reduceIte]) <;> (try simp only [mTypB, if_neg c_7, if_pos c_13, ← e_2, if_true, if_false, Bool.false_eq_true, ↓reduceIte]) <;> (first | done | with_reducible rfl | rw [e_2]))) d_Mod_type_29
      · skip
        have c_13 : ¬ (8 < x) := c_13
        refine lv_aload_n hx hb d_Mod_type_16 rfl (lv_at hl 0 rfl) ?_
        refine va_get (D := D) (ci := 4) (v := .int (gR s_2 1)) (C := "HeadDeskModel") (T := F_Mod) (N := 38) hx hb hts a_Mod hown hX.1 hP 0 rfl rfl 2 (by decide) (hts _ m_2_219) (fun _ h9 => h9) rfl d_Mod_type_17 ?_
        refine lv_iload_n hx hb d_Mod_type_20 rfl (lv_at hl 2 rfl) ?_
        refine lv_iadd hx hb d_Mod_type_21 ?_
        refine lv_sipush (v := 300) hx hb d_Mod_type_22 (by decide) ?_
        refine lv_icmp_le (tgt := 30) hx hb d_Mod_type_25 (by decide) (fun c_25 => ?_) (fun c_25 => ?_)
        · skip
          have c_25 : ((gR s_2 1) + x ≤ 300) := c_25
          have hap := ty_st (s := s_2) (by rw [e_2]; exact hp) c_7 c_13 c_25
          refine lv_iconst (v := 0) hx hb d_Mod_type_30 (by decide) ?_
          refine lv_istore (lv' := [(4, .int 0), (0, .ref (bd 0)), (1, .long q), (3, .int x)]) hx hb d_Mod_type_31 hl (by decide) rfl (fun ls hl => ?_)
          have loop33 : ∀ (k : Nat) (j : Nat) (H : Heap) (locs : List Loc) (ls : Array Slot), j + k = x.toNatClampNeg → mTyp st q x = (if tyOk q k j = true then (true, tyW q x.toNatClampNeg s_2) else (false, s_2)) → va_P D vwCl (mdW bd ce s_2) H → va_D A (mdW bd ce s_2) → va_S A s.heap H locs → lv_has ls 6 [(4, .int (nI j)), (0, .ref (bd 0)), (1, .long q), (3, .int x)] → W p l e (rmD 1) s m ([.ref (bd 0), .long q, .int x] : List Value).toArray below meth c H locs 0 0 Q (F0 m 33 ls []) := by
            intro k
            induction k with
            | zero =>
              intro j H locs ls hj hF hP hD hS hl
              refine lv_iload hx hb d_Mod_type_33 (lv_at hl 0 rfl) ?_
              refine lv_iload_n hx hb d_Mod_type_35 rfl (lv_at hl 3 rfl) ?_
              refine lv_icmp_ge (tgt := 82) hx hb d_Mod_type_36 (by decide) (fun c_36 => ?_) (fun c_36 => ?_)
              · skip
                have c_36 : (x ≤ nI j) := c_36
                refine lv_iload_n hx hb d_Mod_type_82 rfl (lv_at hl 3 rfl) ?_
                refine lv_iconst (v := 1) hx hb d_Mod_type_83 (by decide) ?_
                refine lv_isub hx hb d_Mod_type_84 ?_
                refine hx_top (v := nI x.toNatClampNeg - 1) (by rw [hap.2.1]) ?_
                refine lv_istore (lv' := [(4, .int (nI x.toNatClampNeg - 1)), (0, .ref (bd 0)), (1, .long q), (3, .int x)]) hx hb d_Mod_type_85 hl (by decide) rfl (fun ls hl => ?_)
                have loop87 : ∀ (k : Nat) (s1 : MS) (H : Heap) (locs : List Loc) (ls : Array Slot), (0 ≤ (gR s1 1).toInt ∧ (gR s1 1).toInt + (k : Int) ≤ 300) → mTyp st q x = (true, tyW q k s1) → va_P D vwCl (mdW bd ce s1) H → va_D A (mdW bd ce s1) → va_S A s.heap H locs → lv_has ls 6 [(4, .int (nI k - 1)), (0, .ref (bd 0)), (1, .long q), (3, .int x)] → W p l e (rmD 1) s m ([.ref (bd 0), .long q, .int x] : List Value).toArray below meth c H locs 0 0 Q (F0 m 87 ls []) := by
                  intro k
                  induction k with
                  | zero =>
                    intro s1 H locs ls hk hF hP hD hS hl
                    refine lv_iload hx hb d_Mod_type_87 (lv_at hl 0 rfl) ?_
                    refine lv_if_lt (tgt := 129) hx hb d_Mod_type_89 (by decide) (fun c_89 => ?_) (fun c_89 => ?_)
                    · skip
                      have c_89 : (nI 0 - 1 < 0) := c_89
                      refine lv_iconst (v := 1) hx hb d_Mod_type_129 (by decide) ?_
                      exact hret H locs s1 true _ _ hP hD hS (pr2 (by rw [hF]; (try simp only [tyW, if_pos c_89, if_true, if_false, Bool.false_eq_true, ↓reduceIte]) <;> (first | done | with_reducible rfl))) d_Mod_type_130
                    · skip
                      exact absurd (by decide) c_89
                  | succ k ih =>
                    intro s1 H locs ls hk hF hP hD hS hl
                    have hl : lv_has ls 6 [(4, .int (nI k)), (0, .ref (bd 0)), (1, .long q), (3, .int x)] := by rw [nI_pred] at hl; exact hl
                    have hk3 : k < 300 := by have := hk.1; have := hk.2; omega
                    refine lv_iload hx hb d_Mod_type_87 (lv_at hl 0 rfl) ?_
                    refine lv_if_lt (tgt := 129) hx hb d_Mod_type_89 (by decide) (fun c_89 => ?_) (fun c_89 => ?_)
                    · skip
                      exact absurd c_89 (nI_pos (by omega))
                    · skip
                      have c_89 : ¬ (nI k < 0) := c_89
                      refine lv_aload_n hx hb d_Mod_type_92 rfl (lv_at hl 1 rfl) ?_
                      refine va_get (D := D) (ci := 4) (v := .ref (bd 1)) (C := "HeadDeskModel") (T := F_Mod) (N := 38) hx hb hts a_Mod hown hX.1 hP 0 rfl rfl 1 (by decide) (hts _ m_2_218) (fun _ h9 => h9) rfl d_Mod_type_93 ?_
                      refine lv_aload_n hx hb d_Mod_type_96 rfl (lv_at hl 1 rfl) ?_
                      refine va_get (D := D) (ci := 4) (v := .int (gR s1 1)) (C := "HeadDeskModel") (T := F_Mod) (N := 38) hx hb hts a_Mod hown hX.1 hP 0 rfl rfl 2 (by decide) (hts _ m_2_219) (fun _ h9 => h9) rfl d_Mod_type_97 ?_
                      refine lv_lload_n hx hb d_Mod_type_100 rfl (lv_at hl 2 rfl) ?_
                      refine lv_bipush (v := 8) hx hb d_Mod_type_101 (by decide) ?_
                      refine lv_iload hx hb d_Mod_type_103 (lv_at hl 0 rfl) ?_
                      refine lv_imul hx hb d_Mod_type_105 ?_
                      refine lv_lshr (v := q >>> ((8 * (nI k)).toInt64 &&& 63)) hx hb d_Mod_type_106 rfl ?_
                      refine lv_ldc2 (v := 255) hx hb hown (hts _ m_3_100) d_Mod_type_107 ?_
                      refine lv_land hx hb d_Mod_type_110 ?_
                      refine lv_l2i (v := ((q >>> ((8 * (nI k)).toInt64 &&& 63)) &&& 255).toInt32) hx hb d_Mod_type_111 rfl ?_
                      refine hx_top (v := byR q (nI k)) rfl ?_
                      refine va_iast hx hb hX.1 hP hD hS 1 0 rfl rfl (ty_in hk.1 hk.2) d_Mod_type_112 (fun H locs hP hD hS => ?_)
                      have hP : va_P D vwCl (mdW bd ce (wTp s1 (upd (gTp s1) (gR s1 1).toNatClampNeg (byR q (nI k))))) H := hP
                      have hD : va_D A (mdW bd ce (wTp s1 (upd (gTp s1) (gR s1 1).toNatClampNeg (byR q (nI k))))) := hD
                      refine lv_aload_n hx hb d_Mod_type_113 rfl (lv_at hl 1 rfl) ?_
                      refine lv_dup hx hb d_Mod_type_114 rfl ?_
                      refine va_get (D := D) (ci := 4) (v := .int (gR s1 1)) (C := "HeadDeskModel") (T := F_Mod) (N := 38) hx hb hts a_Mod hown hX.1 hP 0 rfl rfl 2 (by decide) (hts _ m_2_219) (fun _ h9 => h9) rfl d_Mod_type_115 ?_
                      refine lv_iconst (v := 1) hx hb d_Mod_type_118 (by decide) ?_
                      refine lv_iadd hx hb d_Mod_type_119 ?_
                      refine va_put (D := D) (ci := 4) (v := .int ((gR s1 1) + 1)) (ty := .int) (C := "HeadDeskModel") (T := F_Mod) (N := 38) hx hb hts a_Mod t_Mod k_Mod n_Mod hown hX.1 hP hD hS 0 rfl rfl 2 (by decide) (hts _ m_2_219) (fun _ h9 => h9) rfl (by decide +kernel) rfl rfl (Nat.le_of_ble_eq_true rfl) d_Mod_type_120 (fun H locs hP hD hS => ?_)
                      have hP : va_P D vwCl (mdW bd ce (wR (wTp s1 (upd (gTp s1) (gR s1 1).toNatClampNeg (byR q (nI k)))) 1 ((gR s1 1) + 1))) H := hP
                      have hD : va_D A (mdW bd ce (wR (wTp s1 (upd (gTp s1) (gR s1 1).toNatClampNeg (byR q (nI k)))) 1 ((gR s1 1) + 1))) := hD
                      obtain ⟨s_120, e_120⟩ : ∃ z : MS, z = wR (wTp s1 (upd (gTp s1) (gR s1 1).toNatClampNeg (byR q (nI k)))) 1 ((gR s1 1) + 1) := ⟨_, rfl⟩
                      have hP : va_P D vwCl (mdW bd ce s_120) H := by rw [e_120]; exact hP
                      have hD : va_D A (mdW bd ce s_120) := by rw [e_120]; exact hD
                      refine lv_iinc (v := nI k - 1) (lv' := [(4, .int (nI k - 1)), (0, .ref (bd 0)), (1, .long q), (3, .int x)]) hx hb d_Mod_type_123 hl (k := 0) rfl (i_m1 _) (by decide) rfl (fun ls hl => ?_)
                      refine lv_goto (tgt := 87) hx hb d_Mod_type_126 (by decide) ?_
                      exact ih s_120 H locs ls (by rw [e_120]; exact ty_nx hk.1 hk.2) (by rw [hF, tyW, ← e_120]) hP hD hS (lv_sub hl [0, 1, 2, 3] rfl)
                exact loop87 x.toNatClampNeg  s_2 H locs ls (⟨by rw [e_2]; exact hp.1, hap.1⟩) (by rw [hF]; simp only [tyOk, if_true, ↓reduceIte]) hP hD hS (lv_sub hl [0, 1, 2, 3] rfl)
              · skip
                exact absurd (nI_cyes (by omega) (by have := cl_le (x); omega)) c_36
            | succ k ih =>
              intro j H locs ls hj hF hP hD hS hl
              refine lv_iload hx hb d_Mod_type_33 (lv_at hl 0 rfl) ?_
              refine lv_iload_n hx hb d_Mod_type_35 rfl (lv_at hl 3 rfl) ?_
              refine lv_icmp_ge (tgt := 82) hx hb d_Mod_type_36 (by decide) (fun c_36 => ?_) (fun c_36 => ?_)
              · skip
                exact absurd c_36 (nI_cno (by omega))
              · skip
                have c_36 : ¬ (x ≤ nI j) := c_36
                refine lv_lload_n hx hb d_Mod_type_39 rfl (lv_at hl 2 rfl) ?_
                refine lv_bipush (v := 8) hx hb d_Mod_type_40 (by decide) ?_
                refine lv_iload hx hb d_Mod_type_42 (lv_at hl 0 rfl) ?_
                refine lv_imul hx hb d_Mod_type_44 ?_
                refine lv_lshr (v := q >>> ((8 * (nI j)).toInt64 &&& 63)) hx hb d_Mod_type_45 rfl ?_
                refine lv_ldc2 (v := 255) hx hb hown (hts _ m_3_100) d_Mod_type_46 ?_
                refine lv_land hx hb d_Mod_type_49 ?_
                refine lv_l2i (v := ((q >>> ((8 * (nI j)).toInt64 &&& 63)) &&& 255).toInt32) hx hb d_Mod_type_50 rfl ?_
                refine hx_top (v := byR q (nI j)) rfl ?_
                refine lv_istore (lv' := [(5, .int (byR q (nI j))), (4, .int (nI j)), (0, .ref (bd 0)), (1, .long q), (3, .int x)]) hx hb d_Mod_type_51 hl (by decide) rfl (fun ls hl => ?_)
                refine lv_iload hx hb d_Mod_type_53 (lv_at hl 0 rfl) ?_
                refine lv_bipush (v := 10) hx hb d_Mod_type_55 (by decide) ?_
                refine lv_icmp_eq (tgt := 76) hx hb d_Mod_type_57 (by decide) (fun c_57 => ?_) (fun c_57 => ?_)
                · skip
                  have c_57 : (byR q (nI j) = 10) := c_57
                  refine lv_iinc (v := nI (j + 1)) (lv' := [(4, .int (nI (j + 1))), (5, .int (byR q (nI j))), (0, .ref (bd 0)), (1, .long q), (3, .int x)]) hx hb d_Mod_type_76 hl (k := 1) rfl (by rw [nI_succ]; rfl) (by decide) rfl (fun ls hl => ?_)
                  refine lv_goto (tgt := 33) hx hb d_Mod_type_79 (by decide) ?_
                  exact ih (j + 1) H locs ls (by omega) (by rw [hF]; (try simp only [tyOk, if_neg c_36, if_pos c_57, if_true, if_false, Bool.false_eq_true, ↓reduceIte]) <;> (try simp only [mayR, if_neg c_36, if_pos c_57, if_true, if_false, Bool.false_eq_true, ↓reduceIte]) <;> (first | done | with_reducible rfl)) hP hD hS (lv_sub hl [0, 2, 3, 4] rfl)
                · skip
                  have c_57 : ¬ (byR q (nI j) = 10) := c_57
                  refine lv_iload hx hb d_Mod_type_60 (lv_at hl 0 rfl) ?_
                  refine lv_bipush (v := 32) hx hb d_Mod_type_62 (by decide) ?_
                  refine lv_icmp_lt (tgt := 74) hx hb d_Mod_type_64 (by decide) (fun c_64 => ?_) (fun c_64 => ?_)
                  · skip
                    have c_64 : (byR q (nI j) < 32) := c_64
                    refine lv_iconst (v := 0) hx hb d_Mod_type_74 (by decide) ?_
                    exact hret H locs s_2 false _ _ hP hD hS (pr2 (by rw [hF]; (try simp only [tyOk, if_neg c_36, if_neg c_57, if_pos c_64, if_true, if_false, Bool.false_eq_true, ↓reduceIte]) <;> (try simp only [mayR, if_neg c_36, if_neg c_57, if_pos c_64, if_true, if_false, Bool.false_eq_true, ↓reduceIte]) <;> (first | done | with_reducible rfl))) d_Mod_type_75
                  · skip
                    have c_64 : ¬ (byR q (nI j) < 32) := c_64
                    refine lv_iload hx hb d_Mod_type_67 (lv_at hl 0 rfl) ?_
                    refine lv_bipush (v := 126) hx hb d_Mod_type_69 (by decide) ?_
                    refine lv_icmp_le (tgt := 76) hx hb d_Mod_type_71 (by decide) (fun c_71 => ?_) (fun c_71 => ?_)
                    · skip
                      have c_71 : (byR q (nI j) ≤ 126) := c_71
                      refine lv_iinc (v := nI (j + 1)) (lv' := [(4, .int (nI (j + 1))), (5, .int (byR q (nI j))), (0, .ref (bd 0)), (1, .long q), (3, .int x)]) hx hb d_Mod_type_76 hl (k := 1) rfl (by rw [nI_succ]; rfl) (by decide) rfl (fun ls hl => ?_)
                      refine lv_goto (tgt := 33) hx hb d_Mod_type_79 (by decide) ?_
                      exact ih (j + 1) H locs ls (by omega) (by rw [hF]; (try simp only [tyOk, if_neg c_36, if_neg c_57, if_neg c_64, if_pos c_71, if_true, if_false, Bool.false_eq_true, ↓reduceIte]) <;> (try simp only [mayR, if_neg c_36, if_neg c_57, if_neg c_64, if_pos c_71, if_true, if_false, Bool.false_eq_true, ↓reduceIte]) <;> (first | done | with_reducible rfl)) hP hD hS (lv_sub hl [0, 2, 3, 4] rfl)
                    · skip
                      have c_71 : ¬ (byR q (nI j) ≤ 126) := c_71
                      refine lv_iconst (v := 0) hx hb d_Mod_type_74 (by decide) ?_
                      exact hret H locs s_2 false _ _ hP hD hS (pr2 (by rw [hF]; (try simp only [tyOk, if_neg c_36, if_neg c_57, if_neg c_64, if_neg c_71, if_true, if_false, Bool.false_eq_true, ↓reduceIte]) <;> (try simp only [mayR, if_neg c_36, if_neg c_57, if_neg c_64, if_neg c_71, if_true, if_false, Bool.false_eq_true, ↓reduceIte]) <;> (first | done | with_reducible rfl))) d_Mod_type_75
          exact loop33 x.toNatClampNeg 0  H locs ls (by omega) (by (try simp only [mTyp, if_neg c_7, if_neg c_13, if_pos c_25, ← e_2, if_true, if_false, Bool.false_eq_true, ↓reduceIte]) <;> (try simp only [mTypB, if_neg c_7, if_neg c_13, if_pos c_25, ← e_2, if_true, if_false, Bool.false_eq_true, ↓reduceIte]) <;> (first | done | with_reducible rfl | rw [e_2])) hP hD hS (lv_sub hl [0, 1, 2, 3] rfl)
        · skip
          have c_25 : ¬ ((gR s_2 1) + x ≤ 300) := c_25
          refine lv_iconst (v := 0) hx hb d_Mod_type_28 (by decide) ?_
          exact hret H locs s_2 false _ _ hP hD hS (pr2 (by (try simp only [mTyp, if_neg c_7, if_neg c_13, if_neg c_25, ← e_2, if_true, if_false, Bool.false_eq_true, ↓reduceIte]) <;> (try simp only [mTypB, if_neg c_7, if_neg c_13, if_neg c_25, ← e_2, if_true, if_false, Bool.false_eq_true, ↓reduceIte]) <;> (first | done | with_reducible rfl | rw [e_2]))) d_Mod_type_29
  rw [hH, hlo] at goal
  exact goal
