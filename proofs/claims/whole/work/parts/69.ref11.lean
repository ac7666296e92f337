variable {l : Launch} {D : va_G} {bd : Nat → Nat} {ce : Nat → ClassId} {adK adV : Nat → Nat} {tF : Nat} {tys : List (ClassId × FieldType)}

set_option maxHeartbeats 4000000 in
set_option maxRecDepth 100000 in
theorem c_Mod_line (st : MS) (hv : mInv st) (hj : jInv st) (x : Int32) : hx_Mv l D (tyM ce) adK adV tF (mdW bd ce) y_Mod_line w_Mod_line (rmD 8) [.ref (bd 0), .int x] st (mLine st x) := by
  refine hx_Mv.of (cc := b_Mod_line) (maxL := 2) (by decide) rfl (Nat.le_of_ble_eq_true rfl) ?_
  intro p e s m below meth c A Q ls hI hX hA hP hD hS hl hret
  obtain ⟨hx, hb, hml, hown, hts⟩ := id hI
  have hts : ∀ w ∈ aw, w.before ([.ref (bd 0), .int x] : List Value).toArray s = true := fun w h => hts w (List.mem_cons_of_mem _ h)
  have hown : s.vm.findClass "HeadDeskModel" = some m.cls := hown
  have hI : hx_In p s m ([.ref (bd 0), .int x] : List Value).toArray c b_Mod_line 2 "HeadDeskModel" aw := ⟨hx, hb, hml, hown, hts⟩
  have hP : va_P D vwCl (mdW bd ce st) s.heap := hP
  obtain ⟨H, hH⟩ : ∃ H, H = s.heap := ⟨_, rfl⟩
  obtain ⟨locs, hlo⟩ : ∃ locs : List Loc, locs = [] := ⟨_, rfl⟩
  have hS : va_S A s.heap H locs := by rw [hH, hlo]; exact hS
  have hP : va_P D vwCl (mdW bd ce st) H := by rw [hH]; exact hP
  have hl : lv_has ls 2 [(0, .ref (bd 0)), (1, .int x)] := hl
  have goal : W p l e (rmD 8) s m ([.ref (bd 0), .int x] : List Value).toArray below meth c H locs 0 0 Q (F0 m 0 ls []) := by
    refine lv_aload_n hx hb d_Mod_line_0 rfl (lv_at hl 0 rfl) ?_
    refine va_get (D := D) (ci := 4) (v := .int (gR st 3)) (C := "HeadDeskModel") (T := F_Mod) (N := 38) hx hb hts a_Mod hown hX.1 hP 0 rfl rfl 4 (by decide) (hts _ m_2_221) (fun _ h9 => h9) rfl d_Mod_line_1 ?_
    refine lv_aload_n hx hb d_Mod_line_4 rfl (lv_at hl 0 rfl) ?_
    refine va_get (D := D) (ci := 4) (v := .int (gR st 1)) (C := "HeadDeskModel") (T := F_Mod) (N := 38) hx hb hts a_Mod hown hX.1 hP 0 rfl rfl 2 (by decide) (hts _ m_2_219) (fun _ h9 => h9) rfl d_Mod_line_5 ?_
    refine lv_icmp_lt (tgt := 21) hx hb d_Mod_line_8 (by decide) (fun c_8 => ?_) (fun c_8 => ?_)
    · skip
      have c_8 : (gR st 3 < gR st 1) := c_8
      refine lv_aload_n hx hb d_Mod_line_21 rfl (lv_at hl 0 rfl) ?_
      refine hx_Vz (wr := []) (As := []) (rest := []) hI (c_Mod_name st hv ) (cw_V (C := "HeadDeskModel") 0 hts m_3_145 m_3_147 ms_33 m_1_5 m_3_148 (by decide +kernel) ⟨by decide, by decide⟩) hX hA hP hD hS [0, 1, 2, 3, 4, 5, 6] [] rfl rfl (by decide) (by decide) (by decide) (va_recv hX.1 hP (ci := 4) (q0 := 0) rfl rfl) rfl hl.1 rfl (Nat.le_of_ble_eq_true rfl) d_Mod_line_22 ⟨Nat.zero_le _, Nat.zero_le _⟩ (fun H locs hP hD hS => ?_)
      obtain ⟨s_22, e_22⟩ : ∃ z : MS, z = (mNam st).2 := ⟨_, rfl⟩
      have i_22 : mInv s_22 := by rw [e_22]; exact inv_nam hv
      have hP : va_P D vwCl (mdW bd ce s_22) H := by rw [e_22]; exact hP
      have hD : va_D A (mdW bd ce s_22) := by rw [e_22]; exact hD
      refine lv_if_ne (tgt := 29) hx hb d_Mod_line_25 (by decide) (fun c_25 => ?_) (fun c_25 => ?_)
      · skip
        have c_25 : ((mNam st).1) = true := bI_1 c_25
        have hn22 : 1 ≤ (gR s_22 26).toInt := by rw [e_22]; exact nam_n hv c_25
        refine lv_iload_n hx hb d_Mod_line_29 rfl (lv_at hl 1 rfl) ?_
        refine lv_if_eq (tgt := 49) hx hb d_Mod_line_30 (by decide) (fun c_30 => ?_) (fun c_30 => ?_)
        · skip
          have c_30 : (x = 0) := c_30
          refine lv_iload_n hx hb d_Mod_line_49 rfl (lv_at hl 1 rfl) ?_
          refine lv_if_eq (tgt := 69) hx hb d_Mod_line_50 (by decide) (fun c_50 => ?_) (fun c_50 => ?_)
          · skip
            have c_50 : (x = 0) := c_50
            refine lv_aload_n hx hb d_Mod_line_69 rfl (lv_at hl 0 rfl) ?_
            refine va_ldcS hx hb hown (hX.2.2.2.2.2.1 _ _ _ _ st_25) d_Mod_line_70 ?_
            refine hx_Vz (wr := []) (As := [.ref (adK 25)]) (rest := []) hI (c_Mod_isNamedL s_22 i_22 hn22 (by decide) sw_25) (cw_V (C := "HeadDeskModel") 1 hts m_3_157 m_3_159 ms_35 m_1_5 m_3_160 (by decide +kernel) ⟨by decide, by decide⟩) hX hA hP hD hS [0, 1, 2, 3, 4, 5, 6] [] rfl rfl (by decide) (by decide) (by decide) (va_recv hX.1 hP (ci := 4) (q0 := 0) rfl rfl) rfl hl.1 rfl (Nat.le_of_ble_eq_true rfl) d_Mod_line_72 ⟨Nat.zero_le _, Nat.zero_le _⟩ (fun H locs hP hD hS => ?_)
            have hP : va_P D vwCl (mdW bd ce s_22) H := hP
            have hD : va_D A (mdW bd ce s_22) := hD
            refine lv_if_eq (tgt := 86) hx hb d_Mod_line_75 (by decide) (fun c_75 => ?_) (fun c_75 => ?_)
            · skip
              have c_75 : (mNamed s_22 t_cache_control) = false := bI_0 c_75
              refine lv_iload_n hx hb d_Mod_line_86 rfl (lv_at hl 1 rfl) ?_
              refine lv_if_ne (tgt := 113) hx hb d_Mod_line_87 (by decide) (fun c_87 => ?_) (fun c_87 => ?_)
              · skip
                exact absurd c_50 c_87
              · skip
                have c_87 : (x = 0) := c_87
                refine lv_aload_n hx hb d_Mod_line_90 rfl (lv_at hl 0 rfl) ?_
                refine va_ldcS hx hb hown (hX.2.2.2.2.2.1 _ _ _ _ st_34) d_Mod_line_91 ?_
                refine hx_Vz (wr := []) (As := [.ref (adK 34)]) (rest := []) hI (c_Mod_isNamedL s_22 i_22 hn22 (by decide) sw_34) (cw_V (C := "HeadDeskModel") 1 hts m_3_157 m_3_159 ms_35 m_1_5 m_3_160 (by decide +kernel) ⟨by decide, by decide⟩) hX hA hP hD hS [0, 1, 2, 3, 4, 5, 6] [] rfl rfl (by decide) (by decide) (by decide) (va_recv hX.1 hP (ci := 4) (q0 := 0) rfl rfl) rfl hl.1 rfl (Nat.le_of_ble_eq_true rfl) d_Mod_line_93 ⟨Nat.zero_le _, Nat.zero_le _⟩ (fun H locs hP hD hS => ?_)
                have hP : va_P D vwCl (mdW bd ce s_22) H := hP
                have hD : va_D A (mdW bd ce s_22) := hD
                refine lv_if_eq (tgt := 113) hx hb d_Mod_line_96 (by decide) (fun c_96 => ?_) (fun c_96 => ?_)
                · skip
                  have c_96 : (mNamed s_22 t_length) = false := bI_0 c_96
                  refine lv_iload_n hx hb d_Mod_line_113 rfl (lv_at hl 1 rfl) ?_
                  refine lv_if_ne (tgt := 133) hx hb d_Mod_line_114 (by decide) (fun c_114 => ?_) (fun c_114 => ?_)
                  · skip
                    exact absurd c_87 c_114
                  · skip
                    have c_114 : (x = 0) := c_114
                    refine lv_aload_n hx hb d_Mod_line_117 rfl (lv_at hl 0 rfl) ?_
                    refine va_ldcS hx hb hown (hX.2.2.2.2.2.1 _ _ _ _ st_35) d_Mod_line_118 ?_
                    refine hx_Vz (wr := []) (As := [.ref (adK 35)]) (rest := []) hI (c_Mod_isNamedL s_22 i_22 hn22 (by decide) sw_35) (cw_V (C := "HeadDeskModel") 1 hts m_3_157 m_3_159 ms_35 m_1_5 m_3_160 (by decide +kernel) ⟨by decide, by decide⟩) hX hA hP hD hS [0, 1, 2, 3, 4, 5, 6] [] rfl rfl (by decide) (by decide) (by decide) (va_recv hX.1 hP (ci := 4) (q0 := 0) rfl rfl) rfl hl.1 rfl (Nat.le_of_ble_eq_true rfl) d_Mod_line_120 ⟨Nat.zero_le _, Nat.zero_le _⟩ (fun H locs hP hD hS => ?_)
                    have hP : va_P D vwCl (mdW bd ce s_22) H := hP
                    have hD : va_D A (mdW bd ce s_22) := hD
                    refine lv_if_eq (tgt := 133) hx hb d_Mod_line_123 (by decide) (fun c_123 => ?_) (fun c_123 => ?_)
                    · skip
                      have c_123 : (mNamed s_22 t_keys) = false := bI_0 c_123
                      refine lv_aload_n hx hb d_Mod_line_133 rfl (lv_at hl 0 rfl) ?_
                      refine hx_Vv (wr := []) (As := []) (rest := []) hI (c_Mod_anyValue s_22 i_22 ) (cw_V (C := "HeadDeskModel") 0 hts m_3_203 m_3_205 ms_43 m_1_5 m_3_206 (by decide +kernel) ⟨by decide, by decide⟩) hX hA hP hD hS [0, 1, 2, 3, 4, 5, 6] [] rfl rfl (by decide) (by decide) (by decide) (va_recv hX.1 hP (ci := 4) (q0 := 0) rfl rfl) rfl hl.1 rfl (Nat.le_of_ble_eq_true rfl) d_Mod_line_134 ⟨Nat.zero_le _, Nat.zero_le _⟩ (fun H locs hP hD hS => ?_)
                      obtain ⟨s_134, e_134⟩ : ∃ z : MS, z = mAnyL 300 s_22 := ⟨_, rfl⟩
                      have i_134 : mInv s_134 := by rw [e_134]; exact inv_anyL 300 _ i_22
                      have hP : va_P D vwCl (mdW bd ce s_134) H := by rw [e_134]; exact hP
                      have hD : va_D A (mdW bd ce s_134) := by rw [e_134]; exact hD
                      refine lv_aload_n hx hb d_Mod_line_137 rfl (lv_at hl 0 rfl) ?_
                      refine lv_bipush (v := 10) hx hb d_Mod_line_138 (by decide) ?_
                      refine hx_Vz (wr := []) (As := [.int 10]) (rest := []) hI (c_Mod_expect s_134 i_134 10 (by decide)) (cw_V (C := "HeadDeskModel") 1 hts m_3_120 m_3_122 ms_28 m_1_5 m_3_123 (by decide +kernel) ⟨by decide, by decide⟩) hX hA hP hD hS [0, 1, 2, 3, 4, 5, 6] [] rfl rfl (by decide) (by decide) (by decide) (va_recv hX.1 hP (ci := 4) (q0 := 0) rfl rfl) rfl hl.1 rfl (Nat.le_of_ble_eq_true rfl) d_Mod_line_140 ⟨Nat.zero_le _, Nat.zero_le _⟩ (fun H locs hP hD hS => ?_)
                      obtain ⟨s_140, e_140⟩ : ∃ z : MS, z = (mExp s_134 10).2 := ⟨_, rfl⟩
                      have i_140 : mInv s_140 := by rw [e_140]; exact inv_exp i_134 (by decide)
                      have hP : va_P D vwCl (mdW bd ce s_140) H := by rw [e_140]; exact hP
                      have hD : va_D A (mdW bd ce s_140) := by rw [e_140]; exact hD
                      refine lv_pop hx hb d_Mod_line_143 rfl ?_
                      exact hret H locs s_140 _ _ hP hD hS (by (try simp only [mLine, if_pos c_8, c_25, if_pos c_30, if_pos c_50, c_75, if_pos c_87, c_96, if_pos c_114, c_123, bnM_t c_25, ← e_22, ← e_134, ← e_140, if_true, if_false, Bool.false_eq_true, ↓reduceIte]) <;> (try simp only [mLinB, if_pos c_8, c_25, if_pos c_30, if_pos c_50, c_75, if_pos c_87, c_96, if_pos c_114, c_123, bnM_t c_25, ← e_22, ← e_134, ← e_140, if_true, if_false, Bool.false_eq_true, ↓reduceIte]) <;> (try simp only [mLinZ, if_pos c_8, c_25, if_pos c_30, if_pos c_50, c_75, if_pos c_87, c_96, if_pos c_114, c_123, bnM_t c_25, ← e_22, ← e_134, ← e_140, if_true, if_false, Bool.false_eq_true, ↓reduceIte]) <;> (first | done | with_reducible rfl | rw [e_140])) d_Mod_line_144
                    · skip
                      have c_123 : (mNamed s_22 t_keys) = true := bI_1 c_123
                      refine lv_aload_n hx hb d_Mod_line_126 rfl (lv_at hl 0 rfl) ?_
                      refine hx_Vv (wr := []) (As := []) (rest := []) hI (c_Mod_keyLetters s_22 i_22 ) (cw_V (C := "HeadDeskModel") 0 hts m_3_199 m_3_201 ms_42 m_1_5 m_3_202 (by decide +kernel) ⟨by decide, by decide⟩) hX hA hP hD hS [0, 1, 2, 3, 4, 5, 6] [] rfl rfl (by decide) (by decide) (by decide) (va_recv hX.1 hP (ci := 4) (q0 := 0) rfl rfl) rfl hl.1 rfl (Nat.le_of_ble_eq_true rfl) d_Mod_line_127 ⟨Nat.zero_le _, Nat.zero_le _⟩ (fun H locs hP hD hS => ?_)
                      obtain ⟨s_127, e_127⟩ : ∃ z : MS, z = mKeyL 8 s_22 := ⟨_, rfl⟩
                      have i_127 : mInv s_127 := by rw [e_127]; exact inv_keyL 8 _ i_22
                      have hP : va_P D vwCl (mdW bd ce s_127) H := by rw [e_127]; exact hP
                      have hD : va_D A (mdW bd ce s_127) := by rw [e_127]; exact hD
                      refine lv_goto (tgt := 137) hx hb d_Mod_line_130 (by decide) ?_
                      refine lv_aload_n hx hb d_Mod_line_137 rfl (lv_at hl 0 rfl) ?_
                      refine lv_bipush (v := 10) hx hb d_Mod_line_138 (by decide) ?_
                      refine hx_Vz (wr := []) (As := [.int 10]) (rest := []) hI (c_Mod_expect s_127 i_127 10 (by decide)) (cw_V (C := "HeadDeskModel") 1 hts m_3_120 m_3_122 ms_28 m_1_5 m_3_123 (by decide +kernel) ⟨by decide, by decide⟩) hX hA hP hD hS [0, 1, 2, 3, 4, 5, 6] [] rfl rfl (by decide) (by decide) (by decide) (va_recv hX.1 hP (ci := 4) (q0 := 0) rfl rfl) rfl hl.1 rfl (Nat.le_of_ble_eq_true rfl) d_Mod_line_140 ⟨Nat.zero_le _, Nat.zero_le _⟩ (fun H locs hP hD hS => ?_)
                      obtain ⟨s_140, e_140⟩ : ∃ z : MS, z = (mExp s_127 10).2 := ⟨_, rfl⟩
                      have i_140 : mInv s_140 := by rw [e_140]; exact inv_exp i_127 (by decide)
                      have hP : va_P D vwCl (mdW bd ce s_140) H := by rw [e_140]; exact hP
                      have hD : va_D A (mdW bd ce s_140) := by rw [e_140]; exact hD
                      refine lv_pop hx hb d_Mod_line_143 rfl ?_
                      exact hret H locs s_140 _ _ hP hD hS (by (try simp only [mLine, if_pos c_8, c_25, if_pos c_30, if_pos c_50, c_75, if_pos c_87, c_96, if_pos c_114, c_123, bnM_t c_25, ← e_22, ← e_127, ← e_140, if_true, if_false, Bool.false_eq_true, ↓reduceIte]) <;> (try simp only [mLinB, if_pos c_8, c_25, if_pos c_30, if_pos c_50, c_75, if_pos c_87, c_96, if_pos c_114, c_123, bnM_t c_25, ← e_22, ← e_127, ← e_140, if_true, if_false, Bool.false_eq_true, ↓reduceIte]) <;> (try simp only [mLinZ, if_pos c_8, c_25, if_pos c_30, if_pos c_50, c_75, if_pos c_87, c_96, if_pos c_114, c_123, bnM_t c_25, ← e_22, ← e_127, ← e_140, if_true, if_false, Bool.false_eq_true, ↓reduceIte]) <;> (first | done | with_reducible rfl | rw [e_140])) d_Mod_line_144
                · skip
                  have c_96 : (mNamed s_22 t_length) = true := bI_1 c_96
                  refine lv_aload_n hx hb d_Mod_line_99 rfl (lv_at hl 0 rfl) ?_
                  refine lv_aload_n hx hb d_Mod_line_100 rfl (lv_at hl 0 rfl) ?_
                  refine lv_sipush (v := 255) hx hb d_Mod_line_101 (by decide) ?_
                  refine hx_Vi (wr := []) (As := [.int 255]) (rest := [.ref (bd 0)]) hI (c_Mod_number s_22 i_22 255) (cw_V (C := "HeadDeskModel") 1 hts m_3_134 m_3_136 ms_31 m_1_5 m_3_137 (by decide +kernel) ⟨by decide, by decide⟩) hX hA hP hD hS [0, 1, 2, 3, 4, 5, 6] [] rfl rfl (by decide) (by decide) (by decide) (va_recv hX.1 hP (ci := 4) (q0 := 0) rfl rfl) rfl hl.1 rfl (Nat.le_of_ble_eq_true rfl) d_Mod_line_104 ⟨Nat.zero_le _, Nat.zero_le _⟩ (fun H locs hP hD hS => ?_)
                  obtain ⟨s_104, e_104⟩ : ∃ z : MS, z = (mNum s_22 255).2 := ⟨_, rfl⟩
                  have i_104 : mInv s_104 := by rw [e_104]; exact inv_num i_22
                  have hP : va_P D vwCl (mdW bd ce s_104) H := by rw [e_104]; exact hP
                  have hD : va_D A (mdW bd ce s_104) := by rw [e_104]; exact hD
                  refine va_put (D := D) (ci := 4) (v := .int ((mNum s_22 255).1)) (ty := .int) (C := "HeadDeskModel") (T := F_Mod) (N := 38) hx hb hts a_Mod t_Mod k_Mod n_Mod hown hX.1 hP hD hS 0 rfl rfl 21 (by decide) (hts _ m_2_238) (fun _ h9 => h9) rfl (by decide +kernel) rfl rfl (Nat.le_of_ble_eq_true rfl) d_Mod_line_107 (fun H locs hP hD hS => ?_)
                  have hP : va_P D vwCl (mdW bd ce (wR s_104 19 ((mNum s_22 255).1))) H := hP
                  have hD : va_D A (mdW bd ce (wR s_104 19 ((mNum s_22 255).1))) := hD
                  obtain ⟨s_107, e_107⟩ : ∃ z : MS, z = wR s_104 19 ((mNum s_22 255).1) := ⟨_, rfl⟩
                  have hP : va_P D vwCl (mdW bd ce s_107) H := by rw [e_107]; exact hP
                  have hD : va_D A (mdW bd ce s_107) := by rw [e_107]; exact hD
                  have i_107 : mInv s_107 := by rw [e_107]; exact i_104
                  refine lv_goto (tgt := 137) hx hb d_Mod_line_110 (by decide) ?_
                  refine lv_aload_n hx hb d_Mod_line_137 rfl (lv_at hl 0 rfl) ?_
                  refine lv_bipush (v := 10) hx hb d_Mod_line_138 (by decide) ?_
                  refine hx_Vz (wr := []) (As := [.int 10]) (rest := []) hI (c_Mod_expect s_107 i_107 10 (by decide)) (cw_V (C := "HeadDeskModel") 1 hts m_3_120 m_3_122 ms_28 m_1_5 m_3_123 (by decide +kernel) ⟨by decide, by decide⟩) hX hA hP hD hS [0, 1, 2, 3, 4, 5, 6] [] rfl rfl (by decide) (by decide) (by decide) (va_recv hX.1 hP (ci := 4) (q0 := 0) rfl rfl) rfl hl.1 rfl (Nat.le_of_ble_eq_true rfl) d_Mod_line_140 ⟨Nat.zero_le _, Nat.zero_le _⟩ (fun H locs hP hD hS => ?_)
                  obtain ⟨s_140, e_140⟩ : ∃ z : MS, z = (mExp s_107 10).2 := ⟨_, rfl⟩
                  have i_140 : mInv s_140 := by rw [e_140]; exact inv_exp i_107 (by decide)
                  have hP : va_P D vwCl (mdW bd ce s_140) H := by rw [e_140]; exact hP
                  have hD : va_D A (mdW bd ce s_140) := by rw [e_140]; exact hD
                  refine lv_pop hx hb d_Mod_line_143 rfl ?_
                  exact hret H locs s_140 _ _ hP hD hS (by (try simp only [mLine, if_pos c_8, c_25, if_pos c_30, if_pos c_50, c_75, if_pos c_87, c_96, bnM_t c_25, ← e_22, ← e_104, ← e_107, ← e_140, if_true, if_false, Bool.false_eq_true, ↓reduceIte]) <;> (try simp only [mLinB, if_pos c_8, c_25, if_pos c_30, if_pos c_50, c_75, if_pos c_87, c_96, bnM_t c_25, ← e_22, ← e_104, ← e_107, ← e_140, if_true, if_false, Bool.false_eq_true, ↓reduceIte]) <;> (try simp only [mLinZ, if_pos c_8, c_25, if_pos c_30, if_pos c_50, c_75, if_pos c_87, c_96, bnM_t c_25, ← e_22, ← e_104, ← e_107, ← e_140, if_true, if_false, Bool.false_eq_true, ↓reduceIte]) <;> (first | done | with_reducible rfl | rw [e_140])) d_Mod_line_144
            · skip
              have c_75 : (mNamed s_22 t_cache_control) = true := bI_1 c_75
              refine lv_aload_n hx hb d_Mod_line_78 rfl (lv_at hl 0 rfl) ?_
              refine lv_iload_n hx hb d_Mod_line_79 rfl (lv_at hl 1 rfl) ?_
              refine hx_Vv (wr := []) (As := [.int x]) (rest := []) hI (c_Mod_list s_22 i_22 x) (cw_V (C := "HeadDeskModel") 1 hts m_3_173 m_3_175 ms_38 m_1_5 m_3_176 (by decide +kernel) ⟨by decide, by decide⟩) hX hA hP hD hS [0, 1, 2, 3, 4, 5, 6] [] rfl rfl (by decide) (by decide) (by decide) (va_recv hX.1 hP (ci := 4) (q0 := 0) rfl rfl) rfl hl.1 rfl (Nat.le_of_ble_eq_true rfl) d_Mod_line_80 ⟨Nat.zero_le _, Nat.zero_le _⟩ (fun H locs hP hD hS => ?_)
              obtain ⟨s_80, e_80⟩ : ∃ z : MS, z = mLisL 301 x s_22 := ⟨_, rfl⟩
              have i_80 : mInv s_80 := by rw [e_80]; exact inv_lisL 301 _ _ i_22
              have hP : va_P D vwCl (mdW bd ce s_80) H := by rw [e_80]; exact hP
              have hD : va_D A (mdW bd ce s_80) := by rw [e_80]; exact hD
              refine lv_goto (tgt := 137) hx hb d_Mod_line_83 (by decide) ?_
              refine lv_aload_n hx hb d_Mod_line_137 rfl (lv_at hl 0 rfl) ?_
              refine lv_bipush (v := 10) hx hb d_Mod_line_138 (by decide) ?_
              refine hx_Vz (wr := []) (As := [.int 10]) (rest := []) hI (c_Mod_expect s_80 i_80 10 (by decide)) (cw_V (C := "HeadDeskModel") 1 hts m_3_120 m_3_122 ms_28 m_1_5 m_3_123 (by decide +kernel) ⟨by decide, by decide⟩) hX hA hP hD hS [0, 1, 2, 3, 4, 5, 6] [] rfl rfl (by decide) (by decide) (by decide) (va_recv hX.1 hP (ci := 4) (q0 := 0) rfl rfl) rfl hl.1 rfl (Nat.le_of_ble_eq_true rfl) d_Mod_line_140 ⟨Nat.zero_le _, Nat.zero_le _⟩ (fun H locs hP hD hS => ?_)
              obtain ⟨s_140, e_140⟩ : ∃ z : MS, z = (mExp s_80 10).2 := ⟨_, rfl⟩
              have i_140 : mInv s_140 := by rw [e_140]; exact inv_exp i_80 (by decide)
              have hP : va_P D vwCl (mdW bd ce s_140) H := by rw [e_140]; exact hP
              have hD : va_D A (mdW bd ce s_140) := by rw [e_140]; exact hD
              refine lv_pop hx hb d_Mod_line_143 rfl ?_
              exact hret H locs s_140 _ _ hP hD hS (by (try simp only [mLine, if_pos c_8, c_25, if_pos c_30, if_pos c_50, c_75, bnM_t c_25, ← e_22, ← e_80, ← e_140, if_true, if_false, Bool.false_eq_true, ↓reduceIte]) <;> (try simp only [mLinB, if_pos c_8, c_25, if_pos c_30, if_pos c_50, c_75, bnM_t c_25, ← e_22, ← e_80, ← e_140, if_true, if_false, Bool.false_eq_true, ↓reduceIte]) <;> (try simp only [mLinZ, if_pos c_8, c_25, if_pos c_30, if_pos c_50, c_75, bnM_t c_25, ← e_22, ← e_80, ← e_140, if_true, if_false, Bool.false_eq_true, ↓reduceIte]) <;> (first | done | with_reducible rfl | rw [e_140])) d_Mod_line_144
          · skip
            exact absurd c_30 c_50
        · skip
          have c_30 : ¬ (x = 0) := c_30
          refine lv_aload_n hx hb d_Mod_line_33 rfl (lv_at hl 0 rfl) ?_
          refine va_ldcS hx hb hown (hX.2.2.2.2.2.1 _ _ _ _ st_22) d_Mod_line_34 ?_
          refine hx_Vz (wr := []) (As := [.ref (adK 22)]) (rest := []) hI (c_Mod_isNamedL s_22 i_22 hn22 (by decide) sw_22) (cw_V (C := "HeadDeskModel") 1 hts m_3_157 m_3_159 ms_35 m_1_5 m_3_160 (by decide +kernel) ⟨by decide, by decide⟩) hX hA hP hD hS [0, 1, 2, 3, 4, 5, 6] [] rfl rfl (by decide) (by decide) (by decide) (va_recv hX.1 hP (ci := 4) (q0 := 0) rfl rfl) rfl hl.1 rfl (Nat.le_of_ble_eq_true rfl) d_Mod_line_36 ⟨Nat.zero_le _, Nat.zero_le _⟩ (fun H locs hP hD hS => ?_)
          have hP : va_P D vwCl (mdW bd ce s_22) H := hP
          have hD : va_D A (mdW bd ce s_22) := hD
          refine lv_if_eq (tgt := 49) hx hb d_Mod_line_39 (by decide) (fun c_39 => ?_) (fun c_39 => ?_)
          · skip
            have c_39 : (mNamed s_22 t_range) = false := bI_0 c_39
            refine lv_iload_n hx hb d_Mod_line_49 rfl (lv_at hl 1 rfl) ?_
            refine lv_if_eq (tgt := 69) hx hb d_Mod_line_50 (by decide) (fun c_50 => ?_) (fun c_50 => ?_)
            · skip
              exact absurd c_50 c_30
            · skip
              have c_50 : ¬ (x = 0) := c_50
              refine lv_aload_n hx hb d_Mod_line_53 rfl (lv_at hl 0 rfl) ?_
              refine va_ldcS hx hb hown (hX.2.2.2.2.2.1 _ _ _ _ st_24) d_Mod_line_54 ?_
              refine hx_Vz (wr := []) (As := [.ref (adK 24)]) (rest := []) hI (c_Mod_isNamedL s_22 i_22 hn22 (by decide) sw_24) (cw_V (C := "HeadDeskModel") 1 hts m_3_157 m_3_159 ms_35 m_1_5 m_3_160 (by decide +kernel) ⟨by decide, by decide⟩) hX hA hP hD hS [0, 1, 2, 3, 4, 5, 6] [] rfl rfl (by decide) (by decide) (by decide) (va_recv hX.1 hP (ci := 4) (q0 := 0) rfl rfl) rfl hl.1 rfl (Nat.le_of_ble_eq_true rfl) d_Mod_line_56 ⟨Nat.zero_le _, Nat.zero_le _⟩ (fun H locs hP hD hS => ?_)
              have hP : va_P D vwCl (mdW bd ce s_22) H := hP
              have hD : va_D A (mdW bd ce s_22) := hD
              refine lv_if_eq (tgt := 69) hx hb d_Mod_line_59 (by decide) (fun c_59 => ?_) (fun c_59 => ?_)
              · skip
                have c_59 : (mNamed s_22 t_if_none_match) = false := bI_0 c_59
                refine lv_aload_n hx hb d_Mod_line_69 rfl (lv_at hl 0 rfl) ?_
                refine va_ldcS hx hb hown (hX.2.2.2.2.2.1 _ _ _ _ st_25) d_Mod_line_70 ?_
                refine hx_Vz (wr := []) (As := [.ref (adK 25)]) (rest := []) hI (c_Mod_isNamedL s_22 i_22 hn22 (by decide) sw_25) (cw_V (C := "HeadDeskModel") 1 hts m_3_157 m_3_159 ms_35 m_1_5 m_3_160 (by decide +kernel) ⟨by decide, by decide⟩) hX hA hP hD hS [0, 1, 2, 3, 4, 5, 6] [] rfl rfl (by decide) (by decide) (by decide) (va_recv hX.1 hP (ci := 4) (q0 := 0) rfl rfl) rfl hl.1 rfl (Nat.le_of_ble_eq_true rfl) d_Mod_line_72 ⟨Nat.zero_le _, Nat.zero_le _⟩ (fun H locs hP hD hS => ?_)
                have hP : va_P D vwCl (mdW bd ce s_22) H := hP
                have hD : va_D A (mdW bd ce s_22) := hD
                refine lv_if_eq (tgt := 86) hx hb d_Mod_line_75 (by decide) (fun c_75 => ?_) (fun c_75 => ?_)
                · skip
                  have c_75 : (mNamed s_22 t_cache_control) = false := bI_0 c_75
                  refine lv_iload_n hx hb d_Mod_line_86 rfl (lv_at hl 1 rfl) ?_
                  refine lv_if_ne (tgt := 113) hx hb d_Mod_line_87 (by decide) (fun c_87 => ?_) (fun c_87 => ?_)
                  · skip
                    have c_87 : ¬ (x = 0) := c_87
                    refine lv_iload_n hx hb d_Mod_line_113 rfl (lv_at hl 1 rfl) ?_
                    refine lv_if_ne (tgt := 133) hx hb d_Mod_line_114 (by decide) (fun c_114 => ?_) (fun c_114 => ?_)
                    · skip
                      have c_114 : ¬ (x = 0) := c_114
                      refine lv_aload_n hx hb d_Mod_line_133 rfl (lv_at hl 0 rfl) ?_
                      refine hx_Vv (wr := []) (As := []) (rest := []) hI (c_Mod_anyValue s_22 i_22 ) (cw_V (C := "HeadDeskModel") 0 hts m_3_203 m_3_205 ms_43 m_1_5 m_3_206 (by decide +kernel) ⟨by decide, by decide⟩) hX hA hP hD hS [0, 1, 2, 3, 4, 5, 6] [] rfl rfl (by decide) (by decide) (by decide) (va_recv hX.1 hP (ci := 4) (q0 := 0) rfl rfl) rfl hl.1 rfl (Nat.le_of_ble_eq_true rfl) d_Mod_line_134 ⟨Nat.zero_le _, Nat.zero_le _⟩ (fun H locs hP hD hS => ?_)
                      obtain ⟨s_134, e_134⟩ : ∃ z : MS, z = mAnyL 300 s_22 := ⟨_, rfl⟩
                      have i_134 : mInv s_134 := by rw [e_134]; exact inv_anyL 300 _ i_22
                      have hP : va_P D vwCl (mdW bd ce s_134) H := by rw [e_134]; exact hP
                      have hD : va_D A (mdW bd ce s_134) := by rw [e_134]; exact hD
                      refine lv_aload_n hx hb d_Mod_line_137 rfl (lv_at hl 0 rfl) ?_
                      refine lv_bipush (v := 10) hx hb d_Mod_line_138 (by decide) ?_
                      refine hx_Vz (wr := []) (As := [.int 10]) (rest := []) hI (c_Mod_expect s_134 i_134 10 (by decide)) (cw_V (C := "HeadDeskModel") 1 hts m_3_120 m_3_122 ms_28 m_1_5 m_3_123 (by decide +kernel) ⟨by decide, by decide⟩) hX hA hP hD hS [0, 1, 2, 3, 4, 5, 6] [] rfl rfl (by decide) (by decide) (by decide) (va_recv hX.1 hP (ci := 4) (q0 := 0) rfl rfl) rfl hl.1 rfl (Nat.le_of_ble_eq_true rfl) d_Mod_line_140 ⟨Nat.zero_le _, Nat.zero_le _⟩ (fun H locs hP hD hS => ?_)
                      obtain ⟨s_140, e_140⟩ : ∃ z : MS, z = (mExp s_134 10).2 := ⟨_, rfl⟩
                      have i_140 : mInv s_140 := by rw [e_140]; exact inv_exp i_134 (by decide)
                      have hP : va_P D vwCl (mdW bd ce s_140) H := by rw [e_140]; exact hP
                      have hD : va_D A (mdW bd ce s_140) := by rw [e_140]; exact hD
                      refine lv_pop hx hb d_Mod_line_143 rfl ?_
                      exact hret H locs s_140 _ _ hP hD hS (by (try simp only [mLine, if_pos c_8, c_25, if_neg c_30, c_39, if_neg c_50, c_59, c_75, if_neg c_87, if_neg c_114, bnM_t c_25, ← e_22, ← e_134, ← e_140, if_true, if_false, Bool.false_eq_true, ↓reduceIte]) <;> (try simp only [mLinB, if_pos c_8, c_25, if_neg c_30, c_39, if_neg c_50, c_59, c_75, if_neg c_87, if_neg c_114, bnM_t c_25, ← e_22, ← e_134, ← e_140, if_true, if_false, Bool.false_eq_true, ↓reduceIte]) <;> (try simp only [mLinZ, if_pos c_8, c_25, if_neg c_30, c_39, if_neg c_50, c_59, c_75, if_neg c_87, if_neg c_114, bnM_t c_25, ← e_22, ← e_134, ← e_140, if_true, if_false, Bool.false_eq_true, ↓reduceIte]) <;> (first | done | with_reducible rfl | rw [e_140])) d_Mod_line_144
                    · skip
                      exact absurd c_114 c_87
                  · skip
                    exact absurd c_87 c_50
                · skip
                  have c_75 : (mNamed s_22 t_cache_control) = true := bI_1 c_75
                  refine lv_aload_n hx hb d_Mod_line_78 rfl (lv_at hl 0 rfl) ?_
                  refine lv_iload_n hx hb d_Mod_line_79 rfl (lv_at hl 1 rfl) ?_
                  refine hx_Vv (wr := []) (As := [.int x]) (rest := []) hI (c_Mod_list s_22 i_22 x) (cw_V (C := "HeadDeskModel") 1 hts m_3_173 m_3_175 ms_38 m_1_5 m_3_176 (by decide +kernel) ⟨by decide, by decide⟩) hX hA hP hD hS [0, 1, 2, 3, 4, 5, 6] [] rfl rfl (by decide) (by decide) (by decide) (va_recv hX.1 hP (ci := 4) (q0 := 0) rfl rfl) rfl hl.1 rfl (Nat.le_of_ble_eq_true rfl) d_Mod_line_80 ⟨Nat.zero_le _, Nat.zero_le _⟩ (fun H locs hP hD hS => ?_)
                  obtain ⟨s_80, e_80⟩ : ∃ z : MS, z = mLisL 301 x s_22 := ⟨_, rfl⟩
                  have i_80 : mInv s_80 := by rw [e_80]; exact inv_lisL 301 _ _ i_22
                  have hP : va_P D vwCl (mdW bd ce s_80) H := by rw [e_80]; exact hP
                  have hD : va_D A (mdW bd ce s_80) := by rw [e_80]; exact hD
                  refine lv_goto (tgt := 137) hx hb d_Mod_line_83 (by decide) ?_
                  refine lv_aload_n hx hb d_Mod_line_137 rfl (lv_at hl 0 rfl) ?_
                  refine lv_bipush (v := 10) hx hb d_Mod_line_138 (by decide) ?_
                  refine hx_Vz (wr := []) (As := [.int 10]) (rest := []) hI (c_Mod_expect s_80 i_80 10 (by decide)) (cw_V (C := "HeadDeskModel") 1 hts m_3_120 m_3_122 ms_28 m_1_5 m_3_123 (by decide +kernel) ⟨by decide, by decide⟩) hX hA hP hD hS [0, 1, 2, 3, 4, 5, 6] [] rfl rfl (by decide) (by decide) (by decide) (va_recv hX.1 hP (ci := 4) (q0 := 0) rfl rfl) rfl hl.1 rfl (Nat.le_of_ble_eq_true rfl) d_Mod_line_140 ⟨Nat.zero_le _, Nat.zero_le _⟩ (fun H locs hP hD hS => ?_)
                  obtain ⟨s_140, e_140⟩ : ∃ z : MS, z = (mExp s_80 10).2 := ⟨_, rfl⟩
                  have i_140 : mInv s_140 := by rw [e_140]; exact inv_exp i_80 (by decide)
                  have hP : va_P D vwCl (mdW bd ce s_140) H := by rw [e_140]; exact hP
                  have hD : va_D A (mdW bd ce s_140) := by rw [e_140]; exact hD
                  refine lv_pop hx hb d_Mod_line_143 rfl ?_
                  exact hret H locs s_140 _ _ hP hD hS (by (try simp only [mLine, if_pos c_8, c_25, if_neg c_30, c_39, if_neg c_50, c_59, c_75, bnM_t c_25, ← e_22, ← e_80, ← e_140, if_true, if_false, Bool.false_eq_true, ↓reduceIte]) <;> (try simp only [mLinB, if_pos c_8, c_25, if_neg c_30, c_39, if_neg c_50, c_59, c_75, bnM_t c_25, ← e_22, ← e_80, ← e_140, if_true, if_false, Bool.false_eq_true, ↓reduceIte]) <;> (try simp only [mLinZ, if_pos c_8, c_25, if_neg c_30, c_39, if_neg c_50, c_59, c_75, bnM_t c_25, ← e_22, ← e_80, ← e_140, if_true, if_false, Bool.false_eq_true, ↓reduceIte]) <;> (first | done | with_reducible rfl | rw [e_140])) d_Mod_line_144
              · skip
                have c_59 : (mNamed s_22 t_if_none_match) = true := bI_1 c_59
                refine lv_aload_n hx hb d_Mod_line_62 rfl (lv_at hl 0 rfl) ?_
                refine hx_Vv (wr := []) (As := []) (rest := []) hI (c_Mod_matching s_22 i_22 (by rw [e_22]; exact mt_0 hv hj c_25 (by rw [← e_22]; exact c_59))) (cw_V (C := "HeadDeskModel") 0 hts m_3_168 m_3_170 ms_37 m_1_5 m_3_171 (by decide +kernel) ⟨by decide, by decide⟩) hX hA hP hD hS [0, 1, 2, 3, 4, 5, 6] [] rfl rfl (by decide) (by decide) (by decide) (va_recv hX.1 hP (ci := 4) (q0 := 0) rfl rfl) rfl hl.1 rfl (Nat.le_of_ble_eq_true rfl) d_Mod_line_63 ⟨Nat.zero_le _, Nat.zero_le _⟩ (fun H locs hP hD hS => ?_)
                obtain ⟨s_63, e_63⟩ : ∃ z : MS, z = mMat s_22 := ⟨_, rfl⟩
                have i_63 : mInv s_63 := by rw [e_63]; exact inv_mat i_22
                have hP : va_P D vwCl (mdW bd ce s_63) H := by rw [e_63]; exact hP
                have hD : va_D A (mdW bd ce s_63) := by rw [e_63]; exact hD
                refine lv_goto (tgt := 137) hx hb d_Mod_line_66 (by decide) ?_
                refine lv_aload_n hx hb d_Mod_line_137 rfl (lv_at hl 0 rfl) ?_
                refine lv_bipush (v := 10) hx hb d_Mod_line_138 (by decide) ?_
                refine hx_Vz (wr := []) (As := [.int 10]) (rest := []) hI (c_Mod_expect s_63 i_63 10 (by decide)) (cw_V (C := "HeadDeskModel") 1 hts m_3_120 m_3_122 ms_28 m_1_5 m_3_123 (by decide +kernel) ⟨by decide, by decide⟩) hX hA hP hD hS [0, 1, 2, 3, 4, 5, 6] [] rfl rfl (by decide) (by decide) (by decide) (va_recv hX.1 hP (ci := 4) (q0 := 0) rfl rfl) rfl hl.1 rfl (Nat.le_of_ble_eq_true rfl) d_Mod_line_140 ⟨Nat.zero_le _, Nat.zero_le _⟩ (fun H locs hP hD hS => ?_)
                obtain ⟨s_140, e_140⟩ : ∃ z : MS, z = (mExp s_63 10).2 := ⟨_, rfl⟩
                have i_140 : mInv s_140 := by rw [e_140]; exact inv_exp i_63 (by decide)
                have hP : va_P D vwCl (mdW bd ce s_140) H := by rw [e_140]; exact hP
                have hD : va_D A (mdW bd ce s_140) := by rw [e_140]; exact hD
                refine lv_pop hx hb d_Mod_line_143 rfl ?_
                exact hret H locs s_140 _ _ hP hD hS (by (try simp only [mLine, if_pos c_8, c_25, if_neg c_30, c_39, if_neg c_50, c_59, bnM_t c_25, ← e_22, ← e_63, ← e_140, if_true, if_false, Bool.false_eq_true, ↓reduceIte]) <;> (try simp only [mLinB, if_pos c_8, c_25, if_neg c_30, c_39, if_neg c_50, c_59, bnM_t c_25, ← e_22, ← e_63, ← e_140, if_true, if_false, Bool.false_eq_true, ↓reduceIte]) <;> (try simp only [mLinZ, if_pos c_8, c_25, if_neg c_30, c_39, if_neg c_50, c_59, bnM_t c_25, ← e_22, ← e_63, ← e_140, if_true, if_false, Bool.false_eq_true, ↓reduceIte]) <;> (first | done | with_reducible rfl | rw [e_140])) d_Mod_line_144
          · skip
            have c_39 : (mNamed s_22 t_range) = true := bI_1 c_39
            refine lv_aload_n hx hb d_Mod_line_42 rfl (lv_at hl 0 rfl) ?_
            refine hx_Vv (wr := []) (As := []) (rest := []) hI (c_Mod_range s_22 i_22 ) (cw_V (C := "HeadDeskModel") 0 hts m_3_161 m_3_163 ms_36 m_1_5 m_3_164 (by decide +kernel) ⟨by decide, by decide⟩) hX hA hP hD hS [0, 1, 2, 3, 4, 5, 6] [] rfl rfl (by decide) (by decide) (by decide) (va_recv hX.1 hP (ci := 4) (q0 := 0) rfl rfl) rfl hl.1 rfl (Nat.le_of_ble_eq_true rfl) d_Mod_line_43 ⟨Nat.zero_le _, Nat.zero_le _⟩ (fun H locs hP hD hS => ?_)
            obtain ⟨s_43, e_43⟩ : ∃ z : MS, z = mRng s_22 := ⟨_, rfl⟩
            have i_43 : mInv s_43 := by rw [e_43]; exact inv_rng i_22
            have hP : va_P D vwCl (mdW bd ce s_43) H := by rw [e_43]; exact hP
            have hD : va_D A (mdW bd ce s_43) := by rw [e_43]; exact hD
            refine lv_goto (tgt := 137) hx hb d_Mod_line_46 (by decide) ?_
            refine lv_aload_n hx hb d_Mod_line_137 rfl (lv_at hl 0 rfl) ?_
            refine lv_bipush (v := 10) hx hb d_Mod_line_138 (by decide) ?_
            refine hx_Vz (wr := []) (As := [.int 10]) (rest := []) hI (c_Mod_expect s_43 i_43 10 (by decide)) (cw_V (C := "HeadDeskModel") 1 hts m_3_120 m_3_122 ms_28 m_1_5 m_3_123 (by decide +kernel) ⟨by decide, by decide⟩) hX hA hP hD hS [0, 1, 2, 3, 4, 5, 6] [] rfl rfl (by decide) (by decide) (by decide) (va_recv hX.1 hP (ci := 4) (q0 := 0) rfl rfl) rfl hl.1 rfl (Nat.le_of_ble_eq_true rfl) d_Mod_line_140 ⟨Nat.zero_le _, Nat.zero_le _⟩ (fun H locs hP hD hS => ?_)
            obtain ⟨s_140, e_140⟩ : ∃ z : MS, z = (mExp s_43 10).2 := ⟨_, rfl⟩
            have i_140 : mInv s_140 := by rw [e_140]; exact inv_exp i_43 (by decide)
            have hP : va_P D vwCl (mdW bd ce s_140) H := by rw [e_140]; exact hP
            have hD : va_D A (mdW bd ce s_140) := by rw [e_140]; exact hD
            refine lv_pop hx hb d_Mod_line_143 rfl ?_
            exact hret H locs s_140 _ _ hP hD hS (by (try simp only [mLine, if_pos c_8, c_25, if_neg c_30, c_39, bnM_t c_25, ← e_22, ← e_43, ← e_140, if_true, if_false, Bool.false_eq_true, ↓reduceIte]) <;> (try simp only [mLinB, if_pos c_8, c_25, if_neg c_30, c_39, bnM_t c_25, ← e_22, ← e_43, ← e_140, if_true, if_false, Bool.false_eq_true, ↓reduceIte]) <;> (try simp only [mLinZ, if_pos c_8, c_25, if_neg c_30, c_39, bnM_t c_25, ← e_22, ← e_43, ← e_140, if_true, if_false, Bool.false_eq_true, ↓reduceIte]) <;> (first | done | with_reducible rfl | rw [e_140])) d_Mod_line_144
      · skip
        have c_25 : ((mNam st).1) = false := bI_0 c_25
        exact hret H locs s_22 _ _ hP hD hS (by (try simp only [mLine, if_pos c_8, c_25, bnM_f c_25, ← e_22, if_true, if_false, Bool.false_eq_true, ↓reduceIte]) <;> (try simp only [mLinB, if_pos c_8, c_25, bnM_f c_25, ← e_22, if_true, if_false, Bool.false_eq_true, ↓reduceIte]) <;> (try simp only [mLinZ, if_pos c_8, c_25, bnM_f c_25, ← e_22, if_true, if_false, Bool.false_eq_true, ↓reduceIte]) <;> (first | done | with_reducible rfl | rw [e_22])) d_Mod_line_28
    · skip
      have c_8 : ¬ (gR st 3 < gR st 1) := c_8
      refine lv_aload_n hx hb d_Mod_line_11 rfl (lv_at hl 0 rfl) ?_
      refine lv_aload_n hx hb d_Mod_line_12 rfl (lv_at hl 0 rfl) ?_
      refine va_get (D := D) (ci := 4) (v := .int (gR st 1)) (C := "HeadDeskModel") (T := F_Mod) (N := 38) hx hb hts a_Mod hown hX.1 hP 0 rfl rfl 2 (by decide) (hts _ m_2_219) (fun _ h9 => h9) rfl d_Mod_line_13 ?_
      refine hx_Vz (wr := []) (As := [.int (gR st 1)]) (rest := []) hI (c_Mod_wrong st hv (gR st 1)) (cw_V (C := "HeadDeskModel") 1 hts m_3_124 m_3_126 ms_29 m_1_5 m_3_127 (by decide +kernel) ⟨by decide, by decide⟩) hX hA hP hD hS [0, 1, 2, 3, 4, 5, 6] [] rfl rfl (by decide) (by decide) (by decide) (va_recv hX.1 hP (ci := 4) (q0 := 0) rfl rfl) rfl hl.1 rfl (Nat.le_of_ble_eq_true rfl) d_Mod_line_16 ⟨Nat.zero_le _, Nat.zero_le _⟩ (fun H locs hP hD hS => ?_)
      obtain ⟨s_16, e_16⟩ : ∃ z : MS, z = mWr st (gR st 1) := ⟨_, rfl⟩
      have i_16 : mInv s_16 := by rw [e_16]; exact inv_wr hv
      have hP : va_P D vwCl (mdW bd ce s_16) H := by rw [e_16]; exact hP
      have hD : va_D A (mdW bd ce s_16) := by rw [e_16]; exact hD
      refine lv_pop hx hb d_Mod_line_19 rfl ?_
      exact hret H locs s_16 _ _ hP hD hS (by (try simp only [mLine, if_neg c_8, ← e_16, if_true, if_false, Bool.false_eq_true, ↓reduceIte]) <;> (try simp only [mLinB, if_neg c_8, ← e_16, if_true, if_false, Bool.false_eq_true, ↓reduceIte]) <;> (try simp only [mLinZ, if_neg c_8, ← e_16, if_true, if_false, Bool.false_eq_true, ↓reduceIte]) <;> (first | done | with_reducible rfl | rw [e_16])) d_Mod_line_20
  rw [hH, hlo] at goal
  exact goal
