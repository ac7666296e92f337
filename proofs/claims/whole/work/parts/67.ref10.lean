variable {l : Launch} {D : va_G} {bd : Nat → Nat} {ce : Nat → ClassId} {adK adV : Nat → Nat} {tF : Nat} {tys : List (ClassId × FieldType)}

set_option maxHeartbeats 4000000 in
set_option maxRecDepth 100000 in
theorem c_Mod_list (st : MS) (hv : mInv st) (x : Int32) : hx_Mv l D (tyM ce) adK adV tF (mdW bd ce) y_Mod_list w_Mod_list (rmD 7) [.ref (bd 0), .int x] st (mLisL 301 x st) := by
  refine hx_Mv.of (cc := b_Mod_list) (maxL := 3) (by decide) rfl (Nat.le_of_ble_eq_true rfl) ?_
  intro p e s m below meth c A Q ls hI hX hA hP hD hS hl hret
  obtain ⟨hx, hb, hml, hown, hts⟩ := id hI
  have hts : ∀ w ∈ aw, w.before ([.ref (bd 0), .int x] : List Value).toArray s = true := fun w h => hts w (List.mem_cons_of_mem _ h)
  have hown : s.vm.findClass "HeadDeskModel" = some m.cls := hown
  have hI : hx_In p s m ([.ref (bd 0), .int x] : List Value).toArray c b_Mod_list 3 "HeadDeskModel" aw := ⟨hx, hb, hml, hown, hts⟩
  have hP : va_P D vwCl (mdW bd ce st) s.heap := hP
  obtain ⟨H, hH⟩ : ∃ H, H = s.heap := ⟨_, rfl⟩
  obtain ⟨locs, hlo⟩ : ∃ locs : List Loc, locs = [] := ⟨_, rfl⟩
  have hS : va_S A s.heap H locs := by rw [hH, hlo]; exact hS
  have hP : va_P D vwCl (mdW bd ce st) H := by rw [hH]; exact hP
  have hl : lv_has ls 3 [(0, .ref (bd 0)), (1, .int x)] := hl
  have goal : W p l e (rmD 7) s m ([.ref (bd 0), .int x] : List Value).toArray below meth c H locs 0 0 Q (F0 m 0 ls []) := by
    refine lv_iconst (v := 1) hx hb d_Mod_list_0 (by decide) ?_
    refine lv_istore_n (lv' := [(2, .int 1), (0, .ref (bd 0)), (1, .int x)]) hx hb d_Mod_list_1 rfl hl (by decide) rfl (fun ls hl => ?_)
    have loop2 : ∀ (k : Nat) (s1 : MS) (H : Heap) (locs : List Loc) (ls : Array Slot), (gR s1 1).toInt + 1 ≤ (gR s1 3).toInt + (k : Int) → mInv s1 → mLisL 301 x st = mLisL k x s1 → va_P D vwCl (mdW bd ce s1) H → va_D A (mdW bd ce s1) → va_S A s.heap H locs → lv_has ls 3 [(2, .int 1), (0, .ref (bd 0)), (1, .int x)] → W p l e (rmD 7) s m ([.ref (bd 0), .int x] : List Value).toArray below meth c H locs 0 0 Q (F0 m 2 ls []) := by
      intro k
      induction k with
      | zero =>
        intro s1 H locs ls hj hv hF hP hD hS hl
        exact absurd (li_1 hv hj) not_false
      | succ k ih =>
        intro s1 H locs ls hj hv hF hP hD hS hl
        refine lv_iload_n hx hb d_Mod_list_2 rfl (lv_at hl 0 rfl) ?_
        refine lv_if_eq (tgt := 201) hx hb d_Mod_list_3 (by decide) (fun c_3 => ?_) (fun c_3 => ?_)
        · skip
          exact absurd c_3 (by decide)
        · skip
          refine lv_aload_n hx hb d_Mod_list_6 rfl (lv_at hl 1 rfl) ?_
          refine va_get (D := D) (ci := 4) (v := .int (gR s1 4)) (C := "HeadDeskModel") (T := F_Mod) (N := 38) hx hb hts a_Mod hown hX.1 hP 0 rfl rfl 5 (by decide) (hts _ m_2_222) (fun _ h9 => h9) rfl d_Mod_list_7 ?_
          refine lv_if_ne (tgt := 201) hx hb d_Mod_list_10 (by decide) (fun c_10 => ?_) (fun c_10 => ?_)
          · skip
            have c_10 : ¬ (gR s1 4 = 0) := c_10
            exact hret H locs s1 _ _ hP hD hS (by rw [hF]; (try simp only [mLisL, mLisW, mLisA, if_neg c_10, if_true, if_false, Bool.false_eq_true, ↓reduceIte]) <;> (try simp only [mLisB, if_neg c_10, if_true, if_false, Bool.false_eq_true, ↓reduceIte]) <;> (try simp only [mLisC, mNx, if_neg c_10, if_true, if_false, Bool.false_eq_true, ↓reduceIte]) <;> (try simp only [mLisD, if_neg c_10, if_true, if_false, Bool.false_eq_true, ↓reduceIte]) <;> (try simp only [mLisE, mNx, if_neg c_10, if_true, if_false, Bool.false_eq_true, ↓reduceIte]) <;> (first | done | with_reducible rfl)) d_Mod_list_201
          · skip
            have c_10 : (gR s1 4 = 0) := c_10
            refine lv_aload_n hx hb d_Mod_list_13 rfl (lv_at hl 1 rfl) ?_
            refine lv_aload_n hx hb d_Mod_list_14 rfl (lv_at hl 1 rfl) ?_
            refine va_get (D := D) (ci := 4) (v := .int (gR s1 3)) (C := "HeadDeskModel") (T := F_Mod) (N := 38) hx hb hts a_Mod hown hX.1 hP 0 rfl rfl 4 (by decide) (hts _ m_2_221) (fun _ h9 => h9) rfl d_Mod_list_15 ?_
            refine va_put (D := D) (ci := 4) (v := .int (gR s1 3)) (ty := .int) (C := "HeadDeskModel") (T := F_Mod) (N := 38) hx hb hts a_Mod t_Mod k_Mod n_Mod hown hX.1 hP hD hS 0 rfl rfl 35 (by decide) (hts _ m_3_12) (fun _ h9 => h9) rfl (by decide +kernel) rfl rfl (Nat.le_of_ble_eq_true rfl) d_Mod_list_18 (fun H locs hP hD hS => ?_)
            have hP : va_P D vwCl (mdW bd ce (wR s1 29 (gR s1 3))) H := hP
            have hD : va_D A (mdW bd ce (wR s1 29 (gR s1 3))) := hD
            obtain ⟨s_18, e_18⟩ : ∃ z : MS, z = wR s1 29 (gR s1 3) := ⟨_, rfl⟩
            have hP : va_P D vwCl (mdW bd ce s_18) H := by rw [e_18]; exact hP
            have hD : va_D A (mdW bd ce s_18) := by rw [e_18]; exact hD
            have i_18 : mInv s_18 := by rw [e_18]; exact hv
            obtain ⟨s_21, e_21⟩ : ∃ z : MS, z = mLetL 300 s_18 := ⟨_, rfl⟩
            have i_21 : mInv s_21 := by rw [e_21]; exact inv_letL 300 _ i_18
            have w_21 : wInv (mLisA s_21) := lw_1 hv i_21 (by rw [e_21]; exact (Ad.reg (by decide) (by decide) : Ad s1 (mLisW s1)).tr (by rw [← e_18]; exact ad_letL 300 _ i_18)) (by rw [e_21, (kq_letL 300 _).2 29 (by decide), e_18]; rfl)
            have k44 : ∀ (H : Heap) (locs : List Loc) (ls : Array Slot), va_P D vwCl (mdW bd ce s_21) H → va_D A (mdW bd ce s_21) → va_S A s.heap H locs → lv_has ls 3 [(2, .int 1), (0, .ref (bd 0)), (1, .int x)] → W p l e (rmD 7) s m ([.ref (bd 0), .int x] : List Value).toArray below meth c H locs 0 0 Q (F0 m 44 ls []) := by
              intro H locs ls hP hD hS hl
              refine lv_aload_n hx hb d_Mod_list_44 rfl (lv_at hl 1 rfl) ?_
              refine lv_aload_n hx hb d_Mod_list_45 rfl (lv_at hl 1 rfl) ?_
              refine va_get (D := D) (ci := 4) (v := .int (gR s_21 3)) (C := "HeadDeskModel") (T := F_Mod) (N := 38) hx hb hts a_Mod hown hX.1 hP 0 rfl rfl 4 (by decide) (hts _ m_2_221) (fun _ h9 => h9) rfl d_Mod_list_46 ?_
              refine va_put (D := D) (ci := 4) (v := .int (gR s_21 3)) (ty := .int) (C := "HeadDeskModel") (T := F_Mod) (N := 38) hx hb hts a_Mod t_Mod k_Mod n_Mod hown hX.1 hP hD hS 0 rfl rfl 36 (by decide) (hts _ m_3_13) (fun _ h9 => h9) rfl (by decide +kernel) rfl rfl (Nat.le_of_ble_eq_true rfl) d_Mod_list_49 (fun H locs hP hD hS => ?_)
              have hP : va_P D vwCl (mdW bd ce (wR s_21 30 (gR s_21 3))) H := hP
              have hD : va_D A (mdW bd ce (wR s_21 30 (gR s_21 3))) := hD
              obtain ⟨s_49, e_49⟩ : ∃ z : MS, z = wR s_21 30 (gR s_21 3) := ⟨_, rfl⟩
              have hP : va_P D vwCl (mdW bd ce s_49) H := by rw [e_49]; exact hP
              have hD : va_D A (mdW bd ce s_49) := by rw [e_49]; exact hD
              have i_49 : mInv s_49 := by rw [e_49]; exact i_21
              have j_49 : wInv s_49 := by rw [e_49]; exact w_21
              refine lv_aload_n hx hb d_Mod_list_52 rfl (lv_at hl 1 rfl) ?_
              refine va_get (D := D) (ci := 4) (v := .int (gR s_49 3)) (C := "HeadDeskModel") (T := F_Mod) (N := 38) hx hb hts a_Mod hown hX.1 hP 0 rfl rfl 4 (by decide) (hts _ m_2_221) (fun _ h9 => h9) rfl d_Mod_list_53 ?_
              refine lv_aload_n hx hb d_Mod_list_56 rfl (lv_at hl 1 rfl) ?_
              refine va_get (D := D) (ci := 4) (v := .int (gR s_49 29)) (C := "HeadDeskModel") (T := F_Mod) (N := 38) hx hb hts a_Mod hown hX.1 hP 0 rfl rfl 35 (by decide) (hts _ m_3_12) (fun _ h9 => h9) rfl d_Mod_list_57 ?_
              refine lv_icmp_ne (tgt := 75) hx hb d_Mod_list_60 (by decide) (fun c_60 => ?_) (fun c_60 => ?_)
              · skip
                have c_60 : ¬ (gR s_49 3 = gR s_49 29) := c_60
                refine lv_aload_n hx hb d_Mod_list_75 rfl (lv_at hl 1 rfl) ?_
                refine va_get (D := D) (ci := 4) (v := .int (gR s_49 3)) (C := "HeadDeskModel") (T := F_Mod) (N := 38) hx hb hts a_Mod hown hX.1 hP 0 rfl rfl 4 (by decide) (hts _ m_2_221) (fun _ h9 => h9) rfl d_Mod_list_76 ?_
                refine lv_aload_n hx hb d_Mod_list_79 rfl (lv_at hl 1 rfl) ?_
                refine va_get (D := D) (ci := 4) (v := .int (gR s_49 29)) (C := "HeadDeskModel") (T := F_Mod) (N := 38) hx hb hts a_Mod hown hX.1 hP 0 rfl rfl 35 (by decide) (hts _ m_3_12) (fun _ h9 => h9) rfl d_Mod_list_80 ?_
                refine lv_isub hx hb d_Mod_list_83 ?_
                refine lv_bipush (v := 30) hx hb d_Mod_list_84 (by decide) ?_
                refine lv_icmp_le (tgt := 98) hx hb d_Mod_list_86 (by decide) (fun c_86 => ?_) (fun c_86 => ?_)
                · skip
                  have c_86 : ((gR s_49 3) - (gR s_49 29) ≤ 30) := c_86
                  refine lv_aload_n hx hb d_Mod_list_98 rfl (lv_at hl 1 rfl) ?_
                  refine lv_iconst (v := (-1)) hx hb d_Mod_list_99 (by decide) ?_
                  refine va_put (D := D) (ci := 4) (v := .int (-1)) (ty := .int) (C := "HeadDeskModel") (T := F_Mod) (N := 38) hx hb hts a_Mod t_Mod k_Mod n_Mod hown hX.1 hP hD hS 0 rfl rfl 37 (by decide) (hts _ m_3_14) (fun _ h9 => h9) rfl (by decide +kernel) rfl rfl (Nat.le_of_ble_eq_true rfl) d_Mod_list_100 (fun H locs hP hD hS => ?_)
                  have hP : va_P D vwCl (mdW bd ce (wR s_49 31 (-1))) H := hP
                  have hD : va_D A (mdW bd ce (wR s_49 31 (-1))) := hD
                  obtain ⟨s_100, e_100⟩ : ∃ z : MS, z = wR s_49 31 (-1) := ⟨_, rfl⟩
                  have hP : va_P D vwCl (mdW bd ce s_100) H := by rw [e_100]; exact hP
                  have hD : va_D A (mdW bd ce s_100) := by rw [e_100]; exact hD
                  have i_100 : mInv s_100 := by rw [e_100]; exact i_49
                  have j_100 : wInv s_100 := by rw [e_100]; exact j_49
                  refine lv_aload_n hx hb d_Mod_list_103 rfl (lv_at hl 1 rfl) ?_
                  refine va_get (D := D) (ci := 4) (v := .int (gR s_100 4)) (C := "HeadDeskModel") (T := F_Mod) (N := 38) hx hb hts a_Mod hown hX.1 hP 0 rfl rfl 5 (by decide) (hts _ m_2_222) (fun _ h9 => h9) rfl d_Mod_list_104 ?_
                  refine lv_if_ne (tgt := 139) hx hb d_Mod_list_107 (by decide) (fun c_107 => ?_) (fun c_107 => ?_)
                  · skip
                    have c_107 : ¬ (gR s_100 4 = 0) := c_107
                    refine lv_aload_n hx hb d_Mod_list_139 rfl (lv_at hl 1 rfl) ?_
                    refine va_get (D := D) (ci := 4) (v := .int (gR s_100 4)) (C := "HeadDeskModel") (T := F_Mod) (N := 38) hx hb hts a_Mod hown hX.1 hP 0 rfl rfl 5 (by decide) (hts _ m_2_222) (fun _ h9 => h9) rfl d_Mod_list_140 ?_
                    refine lv_if_eq (tgt := 147) hx hb d_Mod_list_143 (by decide) (fun c_143 => ?_) (fun c_143 => ?_)
                    · skip
                      exact absurd c_143 c_107
                    · skip
                      have c_143 : ¬ (gR s_100 4 = 0) := c_143
                      exact hret H locs s_100 _ _ hP hD hS (by rw [hF]; (try simp only [mLisL, mLisW, mLisA, if_pos c_10, if_neg c_60, if_pos c_86, if_neg c_107, if_neg c_143, ← e_18, ← e_21, ← e_49, ← e_100, if_true, if_false, Bool.false_eq_true, ↓reduceIte]) <;> (try simp only [mLisB, if_pos c_10, if_neg c_60, if_pos c_86, if_neg c_107, if_neg c_143, ← e_18, ← e_21, ← e_49, ← e_100, if_true, if_false, Bool.false_eq_true, ↓reduceIte]) <;> (try simp only [mLisC, mNx, if_pos c_10, if_neg c_60, if_pos c_86, if_neg c_107, if_neg c_143, ← e_18, ← e_21, ← e_49, ← e_100, if_true, if_false, Bool.false_eq_true, ↓reduceIte]) <;> (try simp only [mLisD, if_pos c_10, if_neg c_60, if_pos c_86, if_neg c_107, if_neg c_143, ← e_18, ← e_21, ← e_49, ← e_100, if_true, if_false, Bool.false_eq_true, ↓reduceIte]) <;> (try simp only [mLisE, mNx, if_pos c_10, if_neg c_60, if_pos c_86, if_neg c_107, if_neg c_143, ← e_18, ← e_21, ← e_49, ← e_100, if_true, if_false, Bool.false_eq_true, ↓reduceIte]) <;> (first | done | with_reducible rfl | rw [e_100])) d_Mod_list_146
                  · skip
                    have c_107 : (gR s_100 4 = 0) := c_107
                    refine lv_aload_n hx hb d_Mod_list_110 rfl (lv_at hl 1 rfl) ?_
                    refine hx_Vi (wr := []) (As := []) (rest := []) hI (c_Mod_see s_100 i_100 ) (cw_V (C := "HeadDeskModel") 0 hts m_3_109 m_3_111 ms_26 m_1_5 m_3_112 (by decide +kernel) ⟨by decide, by decide⟩) hX hA hP hD hS [0, 1, 2, 3, 4, 5, 6] [] rfl rfl (by decide) (by decide) (by decide) (va_recv hX.1 hP (ci := 4) (q0 := 0) rfl rfl) rfl hl.1 rfl (Nat.le_of_ble_eq_true rfl) d_Mod_list_111 ⟨Nat.zero_le _, Nat.zero_le _⟩ (fun H locs hP hD hS => ?_)
                    have hP : va_P D vwCl (mdW bd ce s_100) H := hP
                    have hD : va_D A (mdW bd ce s_100) := hD
                    refine lv_bipush (v := 61) hx hb d_Mod_list_114 (by decide) ?_
                    refine lv_icmp_ne (tgt := 139) hx hb d_Mod_list_116 (by decide) (fun c_116 => ?_) (fun c_116 => ?_)
                    · skip
                      have c_116 : ¬ (mSee s_100 = 61) := c_116
                      refine lv_aload_n hx hb d_Mod_list_139 rfl (lv_at hl 1 rfl) ?_
                      refine va_get (D := D) (ci := 4) (v := .int (gR s_100 4)) (C := "HeadDeskModel") (T := F_Mod) (N := 38) hx hb hts a_Mod hown hX.1 hP 0 rfl rfl 5 (by decide) (hts _ m_2_222) (fun _ h9 => h9) rfl d_Mod_list_140 ?_
                      refine lv_if_eq (tgt := 147) hx hb d_Mod_list_143 (by decide) (fun c_143 => ?_) (fun c_143 => ?_)
                      · skip
                        have c_143 : (gR s_100 4 = 0) := c_143
                        refine lv_iload_n hx hb d_Mod_list_147 rfl (lv_at hl 2 rfl) ?_
                        refine lv_if_eq (tgt := 158) hx hb d_Mod_list_148 (by decide) (fun c_148 => ?_) (fun c_148 => ?_)
                        · skip
                          have c_148 : (x = 0) := c_148
                          refine lv_aload_n hx hb d_Mod_list_158 rfl (lv_at hl 1 rfl) ?_
                          refine hx_Vv (wr := []) (As := []) (rest := []) hI (c_Mod_thingWord s_100 i_100 j_100) (cw_V (C := "HeadDeskModel") 0 hts m_3_190 m_3_192 ms_41 m_1_5 m_3_193 (by decide +kernel) ⟨by decide, by decide⟩) hX hA hP hD hS [0, 1, 2, 3, 4, 5, 6] [] rfl rfl (by decide) (by decide) (by decide) (va_recv hX.1 hP (ci := 4) (q0 := 0) rfl rfl) rfl hl.1 rfl (Nat.le_of_ble_eq_true rfl) d_Mod_list_159 ⟨Nat.zero_le _, Nat.zero_le _⟩ (fun H locs hP hD hS => ?_)
                          obtain ⟨s_159, e_159⟩ : ∃ z : MS, z = mThg s_100 := ⟨_, rfl⟩
                          have i_159 : mInv s_159 := by rw [e_159]; exact inv_kq kq_thg (by decide) (by decide) (by decide) i_100
                          have j_159 : wInv s_159 := by rw [e_159]; exact wv_kq kq_thg (by decide) (by decide) j_100
                          have hP : va_P D vwCl (mdW bd ce s_159) H := by rw [e_159]; exact hP
                          have hD : va_D A (mdW bd ce s_159) := by rw [e_159]; exact hD
                          refine lv_aload_n hx hb d_Mod_list_162 rfl (lv_at hl 1 rfl) ?_
                          refine hx_Vi (wr := []) (As := []) (rest := []) hI (c_Mod_see s_159 i_159 ) (cw_V (C := "HeadDeskModel") 0 hts m_3_109 m_3_111 ms_26 m_1_5 m_3_112 (by decide +kernel) ⟨by decide, by decide⟩) hX hA hP hD hS [0, 1, 2, 3, 4, 5, 6] [] rfl rfl (by decide) (by decide) (by decide) (va_recv hX.1 hP (ci := 4) (q0 := 0) rfl rfl) rfl hl.1 rfl (Nat.le_of_ble_eq_true rfl) d_Mod_list_163 ⟨Nat.zero_le _, Nat.zero_le _⟩ (fun H locs hP hD hS => ?_)
                          have hP : va_P D vwCl (mdW bd ce s_159) H := hP
                          have hD : va_D A (mdW bd ce s_159) := hD
                          refine lv_bipush (v := 44) hx hb d_Mod_list_166 (by decide) ?_
                          refine lv_icmp_ne (tgt := 175) hx hb d_Mod_list_168 (by decide) (fun c_168 => ?_) (fun c_168 => ?_)
                          · skip
                            have c_168 : ¬ (mSee s_159 = 44) := c_168
                            refine lv_iconst (v := 0) hx hb d_Mod_list_175 (by decide) ?_
                            refine lv_istore_n (lv' := [(2, .int 0), (0, .ref (bd 0)), (1, .int x)]) hx hb d_Mod_list_176 rfl hl (by decide) rfl (fun ls hl => ?_)
                            refine lv_iload_n hx hb d_Mod_list_177 rfl (lv_at hl 0 rfl) ?_
                            refine lv_if_eq (tgt := 2) hx hb d_Mod_list_178 (by decide) (fun c_178 => ?_) (fun c_178 => ?_)
                            · skip
                              refine lv_iload_n hx hb d_Mod_list_2 rfl (lv_at hl 0 rfl) ?_
                              refine lv_if_eq (tgt := 201) hx hb d_Mod_list_3 (by decide) (fun c_3 => ?_) (fun c_3 => ?_)
                              · skip
                                exact hret H locs s_159 _ _ hP hD hS (by rw [hF]; (try simp only [mLisL, mLisW, mLisA, if_pos c_10, if_neg c_60, if_pos c_86, if_pos c_107, if_neg c_116, if_pos c_143, if_pos c_148, if_neg c_168, ← e_18, ← e_21, ← e_49, ← e_100, ← e_159, if_true, if_false, Bool.false_eq_true, ↓reduceIte]) <;> (try simp only [mLisB, if_pos c_10, if_neg c_60, if_pos c_86, if_pos c_107, if_neg c_116, if_pos c_143, if_pos c_148, if_neg c_168, ← e_18, ← e_21, ← e_49, ← e_100, ← e_159, if_true, if_false, Bool.false_eq_true, ↓reduceIte]) <;> (try simp only [mLisC, mNx, if_pos c_10, if_neg c_60, if_pos c_86, if_pos c_107, if_neg c_116, if_pos c_143, if_pos c_148, if_neg c_168, ← e_18, ← e_21, ← e_49, ← e_100, ← e_159, if_true, if_false, Bool.false_eq_true, ↓reduceIte]) <;> (try simp only [mLisD, if_pos c_10, if_neg c_60, if_pos c_86, if_pos c_107, if_neg c_116, if_pos c_143, if_pos c_148, if_neg c_168, ← e_18, ← e_21, ← e_49, ← e_100, ← e_159, if_true, if_false, Bool.false_eq_true, ↓reduceIte]) <;> (try simp only [mLisE, mNx, if_pos c_10, if_neg c_60, if_pos c_86, if_pos c_107, if_neg c_116, if_pos c_143, if_pos c_148, if_neg c_168, ← e_18, ← e_21, ← e_49, ← e_100, ← e_159, if_true, if_false, Bool.false_eq_true, ↓reduceIte]) <;> (first | done | with_reducible rfl | rw [e_159])) d_Mod_list_201
                              · skip
                                exact absurd (by decide) c_3
                            · skip
                              exact absurd (by decide) c_178
                          · skip
                            have c_168 : (mSee s_159 = 44) := c_168
                            refine lv_iconst (v := 1) hx hb d_Mod_list_171 (by decide) ?_
                            refine lv_goto (tgt := 176) hx hb d_Mod_list_172 (by decide) ?_
                            refine lv_istore_n (lv' := [(2, .int 1), (0, .ref (bd 0)), (1, .int x)]) hx hb d_Mod_list_176 rfl hl (by decide) rfl (fun ls hl => ?_)
                            refine lv_iload_n hx hb d_Mod_list_177 rfl (lv_at hl 0 rfl) ?_
                            refine lv_if_eq (tgt := 2) hx hb d_Mod_list_178 (by decide) (fun c_178 => ?_) (fun c_178 => ?_)
                            · skip
                              exact absurd c_178 (by decide)
                            · skip
                              refine lv_aload_n hx hb d_Mod_list_181 rfl (lv_at hl 1 rfl) ?_
                              refine lv_dup hx hb d_Mod_list_182 rfl ?_
                              refine va_get (D := D) (ci := 4) (v := .int (gR s_159 3)) (C := "HeadDeskModel") (T := F_Mod) (N := 38) hx hb hts a_Mod hown hX.1 hP 0 rfl rfl 4 (by decide) (hts _ m_2_221) (fun _ h9 => h9) rfl d_Mod_list_183 ?_
                              refine lv_iconst (v := 1) hx hb d_Mod_list_186 (by decide) ?_
                              refine lv_iadd hx hb d_Mod_list_187 ?_
                              refine va_put (D := D) (ci := 4) (v := .int ((gR s_159 3) + 1)) (ty := .int) (C := "HeadDeskModel") (T := F_Mod) (N := 38) hx hb hts a_Mod t_Mod k_Mod n_Mod hown hX.1 hP hD hS 0 rfl rfl 4 (by decide) (hts _ m_2_221) (fun _ h9 => h9) rfl (by decide +kernel) rfl rfl (Nat.le_of_ble_eq_true rfl) d_Mod_list_188 (fun H locs hP hD hS => ?_)
                              have hP : va_P D vwCl (mdW bd ce (wR s_159 3 ((gR s_159 3) + 1))) H := hP
                              have hD : va_D A (mdW bd ce (wR s_159 3 ((gR s_159 3) + 1))) := hD
                              have i_188 : mInv (wR s_159 3 ((gR s_159 3) + 1)) := inv_nx (s := s_159) i_159 (see_lt c_168 (by decide))
                              obtain ⟨s_188, e_188⟩ : ∃ z : MS, z = wR s_159 3 ((gR s_159 3) + 1) := ⟨_, rfl⟩
                              have hP : va_P D vwCl (mdW bd ce s_188) H := by rw [e_188]; exact hP
                              have hD : va_D A (mdW bd ce s_188) := by rw [e_188]; exact hD
                              have i_188 : mInv s_188 := by rw [e_188]; exact i_188
                              have j_188 : wInv s_188 := by rw [e_188]; exact j_159
                              refine lv_aload_n hx hb d_Mod_list_191 rfl (lv_at hl 1 rfl) ?_
                              refine lv_bipush (v := 32) hx hb d_Mod_list_192 (by decide) ?_
                              refine hx_Vz (wr := []) (As := [.int 32]) (rest := []) hI (c_Mod_expect s_188 i_188 32 (by decide)) (cw_V (C := "HeadDeskModel") 1 hts m_3_120 m_3_122 ms_28 m_1_5 m_3_123 (by decide +kernel) ⟨by decide, by decide⟩) hX hA hP hD hS [0, 1, 2, 3, 4, 5, 6] [] rfl rfl (by decide) (by decide) (by decide) (va_recv hX.1 hP (ci := 4) (q0 := 0) rfl rfl) rfl hl.1 rfl (Nat.le_of_ble_eq_true rfl) d_Mod_list_194 ⟨Nat.zero_le _, Nat.zero_le _⟩ (fun H locs hP hD hS => ?_)
                              obtain ⟨s_194, e_194⟩ : ∃ z : MS, z = (mExp s_188 32).2 := ⟨_, rfl⟩
                              have i_194 : mInv s_194 := by rw [e_194]; exact inv_exp i_188 (by decide)
                              have j_194 : wInv s_194 := by rw [e_194]; exact wv_kq kq_exp (by decide) (by decide) j_188
                              have hP : va_P D vwCl (mdW bd ce s_194) H := by rw [e_194]; exact hP
                              have hD : va_D A (mdW bd ce s_194) := by rw [e_194]; exact hD
                              refine lv_pop hx hb d_Mod_list_197 rfl ?_
                              refine lv_goto (tgt := 2) hx hb d_Mod_list_198 (by decide) ?_
                              have a_1 : Ad s1 s_159 := by
                                rw [e_159]
                                refine Ad.tr ?_ (ad_kq kq_thg (by decide) (by decide))
                                rw [e_100]
                                refine Ad.tr ?_ (Ad.reg (by decide) (by decide))
                                rw [e_49]
                                refine Ad.tr ?_ (Ad.reg (by decide) (by decide))
                                rw [e_21]
                                refine Ad.tr ?_ (ad_letL 300 _ i_18)
                                rw [e_18]
                                exact Ad.reg (by decide) (by decide)
                              exact ih s_194 H locs ls (by rw [e_194, e_188]; exact li_2 i_159 (see_lt c_168 (by decide)) a_1 (ad_exp (by have q := i_188; rw [e_188] at q; exact q) (by decide)) hj) i_194 (by rw [hF]; (try simp only [mLisL, mLisW, mLisA, if_pos c_10, if_neg c_60, if_pos c_86, if_pos c_107, if_neg c_116, if_pos c_143, if_pos c_148, if_pos c_168, ← e_18, ← e_21, ← e_49, ← e_100, ← e_159, ← e_188, ← e_194, if_true, if_false, Bool.false_eq_true, ↓reduceIte]) <;> (try simp only [mLisB, if_pos c_10, if_neg c_60, if_pos c_86, if_pos c_107, if_neg c_116, if_pos c_143, if_pos c_148, if_pos c_168, ← e_18, ← e_21, ← e_49, ← e_100, ← e_159, ← e_188, ← e_194, if_true, if_false, Bool.false_eq_true, ↓reduceIte]) <;> (try simp only [mLisC, mNx, if_pos c_10, if_neg c_60, if_pos c_86, if_pos c_107, if_neg c_116, if_pos c_143, if_pos c_148, if_pos c_168, ← e_18, ← e_21, ← e_49, ← e_100, ← e_159, ← e_188, ← e_194, if_true, if_false, Bool.false_eq_true, ↓reduceIte]) <;> (try simp only [mLisD, if_pos c_10, if_neg c_60, if_pos c_86, if_pos c_107, if_neg c_116, if_pos c_143, if_pos c_148, if_pos c_168, ← e_18, ← e_21, ← e_49, ← e_100, ← e_159, ← e_188, ← e_194, if_true, if_false, Bool.false_eq_true, ↓reduceIte]) <;> (try simp only [mLisE, mNx, if_pos c_10, if_neg c_60, if_pos c_86, if_pos c_107, if_neg c_116, if_pos c_143, if_pos c_148, if_pos c_168, ← e_18, ← e_21, ← e_49, ← e_100, ← e_159, ← e_188, ← e_194, if_true, if_false, Bool.false_eq_true, ↓reduceIte]) <;> (first | done | with_reducible rfl | rw [e_194])) hP hD hS (lv_sub hl [0, 1, 2] rfl)
                        · skip
                          have c_148 : ¬ (x = 0) := c_148
                          refine lv_aload_n hx hb d_Mod_list_151 rfl (lv_at hl 1 rfl) ?_
                          refine hx_Vv (wr := []) (As := []) (rest := []) hI (c_Mod_requestWord s_100 i_100 j_100) (cw_V (C := "HeadDeskModel") 0 hts m_3_177 m_3_179 ms_39 m_1_5 m_3_180 (by decide +kernel) ⟨by decide, by decide⟩) hX hA hP hD hS [0, 1, 2, 3, 4, 5, 6] [] rfl rfl (by decide) (by decide) (by decide) (va_recv hX.1 hP (ci := 4) (q0 := 0) rfl rfl) rfl hl.1 rfl (Nat.le_of_ble_eq_true rfl) d_Mod_list_152 ⟨Nat.zero_le _, Nat.zero_le _⟩ (fun H locs hP hD hS => ?_)
                          obtain ⟨s_152, e_152⟩ : ∃ z : MS, z = mReq s_100 := ⟨_, rfl⟩
                          have i_152 : mInv s_152 := by rw [e_152]; exact inv_kq kq_req (by decide) (by decide) (by decide) i_100
                          have j_152 : wInv s_152 := by rw [e_152]; exact wv_kq kq_req (by decide) (by decide) j_100
                          have hP : va_P D vwCl (mdW bd ce s_152) H := by rw [e_152]; exact hP
                          have hD : va_D A (mdW bd ce s_152) := by rw [e_152]; exact hD
                          refine lv_goto (tgt := 162) hx hb d_Mod_list_155 (by decide) ?_
                          refine lv_aload_n hx hb d_Mod_list_162 rfl (lv_at hl 1 rfl) ?_
                          refine hx_Vi (wr := []) (As := []) (rest := []) hI (c_Mod_see s_152 i_152 ) (cw_V (C := "HeadDeskModel") 0 hts m_3_109 m_3_111 ms_26 m_1_5 m_3_112 (by decide +kernel) ⟨by decide, by decide⟩) hX hA hP hD hS [0, 1, 2, 3, 4, 5, 6] [] rfl rfl (by decide) (by decide) (by decide) (va_recv hX.1 hP (ci := 4) (q0 := 0) rfl rfl) rfl hl.1 rfl (Nat.le_of_ble_eq_true rfl) d_Mod_list_163 ⟨Nat.zero_le _, Nat.zero_le _⟩ (fun H locs hP hD hS => ?_)
                          have hP : va_P D vwCl (mdW bd ce s_152) H := hP
                          have hD : va_D A (mdW bd ce s_152) := hD
                          refine lv_bipush (v := 44) hx hb d_Mod_list_166 (by decide) ?_
                          refine lv_icmp_ne (tgt := 175) hx hb d_Mod_list_168 (by decide) (fun c_168 => ?_) (fun c_168 => ?_)
                          · skip
                            have c_168 : ¬ (mSee s_152 = 44) := c_168
                            refine lv_iconst (v := 0) hx hb d_Mod_list_175 (by decide) ?_
                            refine lv_istore_n (lv' := [(2, .int 0), (0, .ref (bd 0)), (1, .int x)]) hx hb d_Mod_list_176 rfl hl (by decide) rfl (fun ls hl => ?_)
                            refine lv_iload_n hx hb d_Mod_list_177 rfl (lv_at hl 0 rfl) ?_
                            refine lv_if_eq (tgt := 2) hx hb d_Mod_list_178 (by decide) (fun c_178 => ?_) (fun c_178 => ?_)
                            · skip
                              refine lv_iload_n hx hb d_Mod_list_2 rfl (lv_at hl 0 rfl) ?_
                              refine lv_if_eq (tgt := 201) hx hb d_Mod_list_3 (by decide) (fun c_3 => ?_) (fun c_3 => ?_)
                              · skip
                                exact hret H locs s_152 _ _ hP hD hS (by rw [hF]; (try simp only [mLisL, mLisW, mLisA, if_pos c_10, if_neg c_60, if_pos c_86, if_pos c_107, if_neg c_116, if_pos c_143, if_neg c_148, if_neg c_168, ← e_18, ← e_21, ← e_49, ← e_100, ← e_152, if_true, if_false, Bool.false_eq_true, ↓reduceIte]) <;> (try simp only [mLisB, if_pos c_10, if_neg c_60, if_pos c_86, if_pos c_107, if_neg c_116, if_pos c_143, if_neg c_148, if_neg c_168, ← e_18, ← e_21, ← e_49, ← e_100, ← e_152, if_true, if_false, Bool.false_eq_true, ↓reduceIte]) <;> (try simp only [mLisC, mNx, if_pos c_10, if_neg c_60, if_pos c_86, if_pos c_107, if_neg c_116, if_pos c_143, if_neg c_148, if_neg c_168, ← e_18, ← e_21, ← e_49, ← e_100, ← e_152, if_true, if_false, Bool.false_eq_true, ↓reduceIte]) <;> (try simp only [mLisD, if_pos c_10, if_neg c_60, if_pos c_86, if_pos c_107, if_neg c_116, if_pos c_143, if_neg c_148, if_neg c_168, ← e_18, ← e_21, ← e_49, ← e_100, ← e_152, if_true, if_false, Bool.false_eq_true, ↓reduceIte]) <;> (try simp only [mLisE, mNx, if_pos c_10, if_neg c_60, if_pos c_86, if_pos c_107, if_neg c_116, if_pos c_143, if_neg c_148, if_neg c_168, ← e_18, ← e_21, ← e_49, ← e_100, ← e_152, if_true, if_false, Bool.false_eq_true, ↓reduceIte]) <;> (first | done | with_reducible rfl | rw [e_152])) d_Mod_list_201
                              · skip
                                exact absurd (by decide) c_3
                            · skip
                              exact absurd (by decide) c_178
                          · skip
                            have c_168 : (mSee s_152 = 44) := c_168
                            refine lv_iconst (v := 1) hx hb d_Mod_list_171 (by decide) ?_
                            refine lv_goto (tgt := 176) hx hb d_Mod_list_172 (by decide) ?_
                            refine lv_istore_n (lv' := [(2, .int 1), (0, .ref (bd 0)), (1, .int x)]) hx hb d_Mod_list_176 rfl hl (by decide) rfl (fun ls hl => ?_)
                            refine lv_iload_n hx hb d_Mod_list_177 rfl (lv_at hl 0 rfl) ?_
                            refine lv_if_eq (tgt := 2) hx hb d_Mod_list_178 (by decide) (fun c_178 => ?_) (fun c_178 => ?_)
                            · skip
                              exact absurd c_178 (by decide)
                            · skip
                              refine lv_aload_n hx hb d_Mod_list_181 rfl (lv_at hl 1 rfl) ?_
                              refine lv_dup hx hb d_Mod_list_182 rfl ?_
                              refine va_get (D := D) (ci := 4) (v := .int (gR s_152 3)) (C := "HeadDeskModel") (T := F_Mod) (N := 38) hx hb hts a_Mod hown hX.1 hP 0 rfl rfl 4 (by decide) (hts _ m_2_221) (fun _ h9 => h9) rfl d_Mod_list_183 ?_
                              refine lv_iconst (v := 1) hx hb d_Mod_list_186 (by decide) ?_
                              refine lv_iadd hx hb d_Mod_list_187 ?_
                              refine va_put (D := D) (ci := 4) (v := .int ((gR s_152 3) + 1)) (ty := .int) (C := "HeadDeskModel") (T := F_Mod) (N := 38) hx hb hts a_Mod t_Mod k_Mod n_Mod hown hX.1 hP hD hS 0 rfl rfl 4 (by decide) (hts _ m_2_221) (fun _ h9 => h9) rfl (by decide +kernel) rfl rfl (Nat.le_of_ble_eq_true rfl) d_Mod_list_188 (fun H locs hP hD hS => ?_)
                              have hP : va_P D vwCl (mdW bd ce (wR s_152 3 ((gR s_152 3) + 1))) H := hP
                              have hD : va_D A (mdW bd ce (wR s_152 3 ((gR s_152 3) + 1))) := hD
                              have i_188 : mInv (wR s_152 3 ((gR s_152 3) + 1)) := inv_nx (s := s_152) i_152 (see_lt c_168 (by decide))
                              obtain ⟨s_188, e_188⟩ : ∃ z : MS, z = wR s_152 3 ((gR s_152 3) + 1) := ⟨_, rfl⟩
                              have hP : va_P D vwCl (mdW bd ce s_188) H := by rw [e_188]; exact hP
                              have hD : va_D A (mdW bd ce s_188) := by rw [e_188]; exact hD
                              have i_188 : mInv s_188 := by rw [e_188]; exact i_188
                              have j_188 : wInv s_188 := by rw [e_188]; exact j_152
                              refine lv_aload_n hx hb d_Mod_list_191 rfl (lv_at hl 1 rfl) ?_
                              refine lv_bipush (v := 32) hx hb d_Mod_list_192 (by decide) ?_
                              refine hx_Vz (wr := []) (As := [.int 32]) (rest := []) hI (c_Mod_expect s_188 i_188 32 (by decide)) (cw_V (C := "HeadDeskModel") 1 hts m_3_120 m_3_122 ms_28 m_1_5 m_3_123 (by decide +kernel) ⟨by decide, by decide⟩) hX hA hP hD hS [0, 1, 2, 3, 4, 5, 6] [] rfl rfl (by decide) (by decide) (by decide) (va_recv hX.1 hP (ci := 4) (q0 := 0) rfl rfl) rfl hl.1 rfl (Nat.le_of_ble_eq_true rfl) d_Mod_list_194 ⟨Nat.zero_le _, Nat.zero_le _⟩ (fun H locs hP hD hS => ?_)
                              obtain ⟨s_194, e_194⟩ : ∃ z : MS, z = (mExp s_188 32).2 := ⟨_, rfl⟩
                              have i_194 : mInv s_194 := by rw [e_194]; exact inv_exp i_188 (by decide)
                              have j_194 : wInv s_194 := by rw [e_194]; exact wv_kq kq_exp (by decide) (by decide) j_188
                              have hP : va_P D vwCl (mdW bd ce s_194) H := by rw [e_194]; exact hP
                              have hD : va_D A (mdW bd ce s_194) := by rw [e_194]; exact hD
                              refine lv_pop hx hb d_Mod_list_197 rfl ?_
                              refine lv_goto (tgt := 2) hx hb d_Mod_list_198 (by decide) ?_
                              have a_1 : Ad s1 s_152 := by
                                rw [e_152]
                                refine Ad.tr ?_ (ad_kq kq_req (by decide) (by decide))
                                rw [e_100]
                                refine Ad.tr ?_ (Ad.reg (by decide) (by decide))
                                rw [e_49]
                                refine Ad.tr ?_ (Ad.reg (by decide) (by decide))
                                rw [e_21]
                                refine Ad.tr ?_ (ad_letL 300 _ i_18)
                                rw [e_18]
                                exact Ad.reg (by decide) (by decide)
                              exact ih s_194 H locs ls (by rw [e_194, e_188]; exact li_2 i_152 (see_lt c_168 (by decide)) a_1 (ad_exp (by have q := i_188; rw [e_188] at q; exact q) (by decide)) hj) i_194 (by rw [hF]; (try simp only [mLisL, mLisW, mLisA, if_pos c_10, if_neg c_60, if_pos c_86, if_pos c_107, if_neg c_116, if_pos c_143, if_neg c_148, if_pos c_168, ← e_18, ← e_21, ← e_49, ← e_100, ← e_152, ← e_188, ← e_194, if_true, if_false, Bool.false_eq_true, ↓reduceIte]) <;> (try simp only [mLisB, if_pos c_10, if_neg c_60, if_pos c_86, if_pos c_107, if_neg c_116, if_pos c_143, if_neg c_148, if_pos c_168, ← e_18, ← e_21, ← e_49, ← e_100, ← e_152, ← e_188, ← e_194, if_true, if_false, Bool.false_eq_true, ↓reduceIte]) <;> (try simp only [mLisC, mNx, if_pos c_10, if_neg c_60, if_pos c_86, if_pos c_107, if_neg c_116, if_pos c_143, if_neg c_148, if_pos c_168, ← e_18, ← e_21, ← e_49, ← e_100, ← e_152, ← e_188, ← e_194, if_true, if_false, Bool.false_eq_true, ↓reduceIte]) <;> (try simp only [mLisD, if_pos c_10, if_neg c_60, if_pos c_86, if_pos c_107, if_neg c_116, if_pos c_143, if_neg c_148, if_pos c_168, ← e_18, ← e_21, ← e_49, ← e_100, ← e_152, ← e_188, ← e_194, if_true, if_false, Bool.false_eq_true, ↓reduceIte]) <;> (try simp only [mLisE, mNx, if_pos c_10, if_neg c_60, if_pos c_86, if_pos c_107, if_neg c_116, if_pos c_143, if_neg c_148, if_pos c_168, ← e_18, ← e_21, ← e_49, ← e_100, ← e_152, ← e_188, ← e_194, if_true, if_false, Bool.false_eq_true, ↓reduceIte]) <;> (first | done | with_reducible rfl | rw [e_194])) hP hD hS (lv_sub hl [0, 1, 2] rfl)
                      · skip
                        exact absurd c_107 c_143
                    · skip
                      have c_116 : (mSee s_100 = 61) := c_116
                      refine lv_aload_n hx hb d_Mod_list_119 rfl (lv_at hl 1 rfl) ?_
                      refine lv_dup hx hb d_Mod_list_120 rfl ?_
                      refine va_get (D := D) (ci := 4) (v := .int (gR s_100 3)) (C := "HeadDeskModel") (T := F_Mod) (N := 38) hx hb hts a_Mod hown hX.1 hP 0 rfl rfl 4 (by decide) (hts _ m_2_221) (fun _ h9 => h9) rfl d_Mod_list_121 ?_
                      refine lv_iconst (v := 1) hx hb d_Mod_list_124 (by decide) ?_
                      refine lv_iadd hx hb d_Mod_list_125 ?_
                      refine va_put (D := D) (ci := 4) (v := .int ((gR s_100 3) + 1)) (ty := .int) (C := "HeadDeskModel") (T := F_Mod) (N := 38) hx hb hts a_Mod t_Mod k_Mod n_Mod hown hX.1 hP hD hS 0 rfl rfl 4 (by decide) (hts _ m_2_221) (fun _ h9 => h9) rfl (by decide +kernel) rfl rfl (Nat.le_of_ble_eq_true rfl) d_Mod_list_126 (fun H locs hP hD hS => ?_)
                      have hP : va_P D vwCl (mdW bd ce (wR s_100 3 ((gR s_100 3) + 1))) H := hP
                      have hD : va_D A (mdW bd ce (wR s_100 3 ((gR s_100 3) + 1))) := hD
                      have i_126 : mInv (wR s_100 3 ((gR s_100 3) + 1)) := inv_nx (s := s_100) i_100 (see_lt c_116 (by decide))
                      obtain ⟨s_126, e_126⟩ : ∃ z : MS, z = wR s_100 3 ((gR s_100 3) + 1) := ⟨_, rfl⟩
                      have hP : va_P D vwCl (mdW bd ce s_126) H := by rw [e_126]; exact hP
                      have hD : va_D A (mdW bd ce s_126) := by rw [e_126]; exact hD
                      have i_126 : mInv s_126 := by rw [e_126]; exact i_126
                      have j_126 : wInv s_126 := by rw [e_126]; exact j_100
                      refine lv_aload_n hx hb d_Mod_list_129 rfl (lv_at hl 1 rfl) ?_
                      refine lv_aload_n hx hb d_Mod_list_130 rfl (lv_at hl 1 rfl) ?_
                      refine lv_ldc (v := 99999) hx hb hown (hts _ m_3_166) d_Mod_list_131 ?_
                      refine hx_Vi (wr := []) (As := [.int 99999]) (rest := [.ref (bd 0)]) hI (c_Mod_number s_126 i_126 99999) (cw_V (C := "HeadDeskModel") 1 hts m_3_134 m_3_136 ms_31 m_1_5 m_3_137 (by decide +kernel) ⟨by decide, by decide⟩) hX hA hP hD hS [0, 1, 2, 3, 4, 5, 6] [] rfl rfl (by decide) (by decide) (by decide) (va_recv hX.1 hP (ci := 4) (q0 := 0) rfl rfl) rfl hl.1 rfl (Nat.le_of_ble_eq_true rfl) d_Mod_list_133 ⟨Nat.zero_le _, Nat.zero_le _⟩ (fun H locs hP hD hS => ?_)
                      obtain ⟨s_133, e_133⟩ : ∃ z : MS, z = (mNum s_126 99999).2 := ⟨_, rfl⟩
                      have i_133 : mInv s_133 := by rw [e_133]; exact inv_num i_126
                      have j_133 : wInv s_133 := by rw [e_133]; exact wv_kq kq_num (by decide) (by decide) j_126
                      have hP : va_P D vwCl (mdW bd ce s_133) H := by rw [e_133]; exact hP
                      have hD : va_D A (mdW bd ce s_133) := by rw [e_133]; exact hD
                      refine va_put (D := D) (ci := 4) (v := .int ((mNum s_126 99999).1)) (ty := .int) (C := "HeadDeskModel") (T := F_Mod) (N := 38) hx hb hts a_Mod t_Mod k_Mod n_Mod hown hX.1 hP hD hS 0 rfl rfl 37 (by decide) (hts _ m_3_14) (fun _ h9 => h9) rfl (by decide +kernel) rfl rfl (Nat.le_of_ble_eq_true rfl) d_Mod_list_136 (fun H locs hP hD hS => ?_)
                      have hP : va_P D vwCl (mdW bd ce (wR s_133 31 ((mNum s_126 99999).1))) H := hP
                      have hD : va_D A (mdW bd ce (wR s_133 31 ((mNum s_126 99999).1))) := hD
                      obtain ⟨s_136, e_136⟩ : ∃ z : MS, z = wR s_133 31 ((mNum s_126 99999).1) := ⟨_, rfl⟩
                      have hP : va_P D vwCl (mdW bd ce s_136) H := by rw [e_136]; exact hP
                      have hD : va_D A (mdW bd ce s_136) := by rw [e_136]; exact hD
                      have i_136 : mInv s_136 := by rw [e_136]; exact i_133
                      have j_136 : wInv s_136 := by rw [e_136]; exact j_133
                      refine lv_aload_n hx hb d_Mod_list_139 rfl (lv_at hl 1 rfl) ?_
                      refine va_get (D := D) (ci := 4) (v := .int (gR s_136 4)) (C := "HeadDeskModel") (T := F_Mod) (N := 38) hx hb hts a_Mod hown hX.1 hP 0 rfl rfl 5 (by decide) (hts _ m_2_222) (fun _ h9 => h9) rfl d_Mod_list_140 ?_
                      refine lv_if_eq (tgt := 147) hx hb d_Mod_list_143 (by decide) (fun c_143 => ?_) (fun c_143 => ?_)
                      · skip
                        have c_143 : (gR s_136 4 = 0) := c_143
                        refine lv_iload_n hx hb d_Mod_list_147 rfl (lv_at hl 2 rfl) ?_
                        refine lv_if_eq (tgt := 158) hx hb d_Mod_list_148 (by decide) (fun c_148 => ?_) (fun c_148 => ?_)
                        · skip
                          have c_148 : (x = 0) := c_148
                          refine lv_aload_n hx hb d_Mod_list_158 rfl (lv_at hl 1 rfl) ?_
                          refine hx_Vv (wr := []) (As := []) (rest := []) hI (c_Mod_thingWord s_136 i_136 j_136) (cw_V (C := "HeadDeskModel") 0 hts m_3_190 m_3_192 ms_41 m_1_5 m_3_193 (by decide +kernel) ⟨by decide, by decide⟩) hX hA hP hD hS [0, 1, 2, 3, 4, 5, 6] [] rfl rfl (by decide) (by decide) (by decide) (va_recv hX.1 hP (ci := 4) (q0 := 0) rfl rfl) rfl hl.1 rfl (Nat.le_of_ble_eq_true rfl) d_Mod_list_159 ⟨Nat.zero_le _, Nat.zero_le _⟩ (fun H locs hP hD hS => ?_)
                          obtain ⟨s_159, e_159⟩ : ∃ z : MS, z = mThg s_136 := ⟨_, rfl⟩
                          have i_159 : mInv s_159 := by rw [e_159]; exact inv_kq kq_thg (by decide) (by decide) (by decide) i_136
                          have j_159 : wInv s_159 := by rw [e_159]; exact wv_kq kq_thg (by decide) (by decide) j_136
                          have hP : va_P D vwCl (mdW bd ce s_159) H := by rw [e_159]; exact hP
                          have hD : va_D A (mdW bd ce s_159) := by rw [e_159]; exact hD
                          refine lv_aload_n hx hb d_Mod_list_162 rfl (lv_at hl 1 rfl) ?_
                          refine hx_Vi (wr := []) (As := []) (rest := []) hI (c_Mod_see s_159 i_159 ) (cw_V (C := "HeadDeskModel") 0 hts m_3_109 m_3_111 ms_26 m_1_5 m_3_112 (by decide +kernel) ⟨by decide, by decide⟩) hX hA hP hD hS [0, 1, 2, 3, 4, 5, 6] [] rfl rfl (by decide) (by decide) (by decide) (va_recv hX.1 hP (ci := 4) (q0 := 0) rfl rfl) rfl hl.1 rfl (Nat.le_of_ble_eq_true rfl) d_Mod_list_163 ⟨Nat.zero_le _, Nat.zero_le _⟩ (fun H locs hP hD hS => ?_)
                          have hP : va_P D vwCl (mdW bd ce s_159) H := hP
                          have hD : va_D A (mdW bd ce s_159) := hD
                          refine lv_bipush (v := 44) hx hb d_Mod_list_166 (by decide) ?_
                          refine lv_icmp_ne (tgt := 175) hx hb d_Mod_list_168 (by decide) (fun c_168 => ?_) (fun c_168 => ?_)
                          · skip
                            have c_168 : ¬ (mSee s_159 = 44) := c_168
                            refine lv_iconst (v := 0) hx hb d_Mod_list_175 (by decide) ?_
                            refine lv_istore_n (lv' := [(2, .int 0), (0, .ref (bd 0)), (1, .int x)]) hx hb d_Mod_list_176 rfl hl (by decide) rfl (fun ls hl => ?_)
                            refine lv_iload_n hx hb d_Mod_list_177 rfl (lv_at hl 0 rfl) ?_
                            refine lv_if_eq (tgt := 2) hx hb d_Mod_list_178 (by decide) (fun c_178 => ?_) (fun c_178 => ?_)
                            · skip
                              refine lv_iload_n hx hb d_Mod_list_2 rfl (lv_at hl 0 rfl) ?_
                              refine lv_if_eq (tgt := 201) hx hb d_Mod_list_3 (by decide) (fun c_3 => ?_) (fun c_3 => ?_)
                              · skip
                                exact hret H locs s_159 _ _ hP hD hS (by rw [hF]; (try simp only [mLisL, mLisW, mLisA, if_pos c_10, if_neg c_60, if_pos c_86, if_pos c_107, if_pos c_116, if_pos c_143, if_pos c_148, if_neg c_168, ← e_18, ← e_21, ← e_49, ← e_100, ← e_126, ← e_133, ← e_136, ← e_159, if_true, if_false, Bool.false_eq_true, ↓reduceIte]) <;> (try simp only [mLisB, if_pos c_10, if_neg c_60, if_pos c_86, if_pos c_107, if_pos c_116, if_pos c_143, if_pos c_148, if_neg c_168, ← e_18, ← e_21, ← e_49, ← e_100, ← e_126, ← e_133, ← e_136, ← e_159, if_true, if_false, Bool.false_eq_true, ↓reduceIte]) <;> (try simp only [mLisC, mNx, if_pos c_10, if_neg c_60, if_pos c_86, if_pos c_107, if_pos c_116, if_pos c_143, if_pos c_148, if_neg c_168, ← e_18, ← e_21, ← e_49, ← e_100, ← e_126, ← e_133, ← e_136, ← e_159, if_true, if_false, Bool.false_eq_true, ↓reduceIte]) <;> (try simp only [mLisD, if_pos c_10, if_neg c_60, if_pos c_86, if_pos c_107, if_pos c_116, if_pos c_143, if_pos c_148, if_neg c_168, ← e_18, ← e_21, ← e_49, ← e_100, ← e_126, ← e_133, ← e_136, ← e_159, if_true, if_false, Bool.false_eq_true, ↓reduceIte]) <;> (try simp only [mLisE, mNx, if_pos c_10, if_neg c_60, if_pos c_86, if_pos c_107, if_pos c_116, if_pos c_143, if_pos c_148, if_neg c_168, ← e_18, ← e_21, ← e_49, ← e_100, ← e_126, ← e_133, ← e_136, ← e_159, if_true, if_false, Bool.false_eq_true, ↓reduceIte]) <;> (first | done | with_reducible rfl | rw [e_159])) d_Mod_list_201
                              · skip
                                exact absurd (by decide) c_3
                            · skip
                              exact absurd (by decide) c_178
                          · skip
                            have c_168 : (mSee s_159 = 44) := c_168
                            refine lv_iconst (v := 1) hx hb d_Mod_list_171 (by decide) ?_
                            refine lv_goto (tgt := 176) hx hb d_Mod_list_172 (by decide) ?_
                            refine lv_istore_n (lv' := [(2, .int 1), (0, .ref (bd 0)), (1, .int x)]) hx hb d_Mod_list_176 rfl hl (by decide) rfl (fun ls hl => ?_)
                            refine lv_iload_n hx hb d_Mod_list_177 rfl (lv_at hl 0 rfl) ?_
                            refine lv_if_eq (tgt := 2) hx hb d_Mod_list_178 (by decide) (fun c_178 => ?_) (fun c_178 => ?_)
                            · skip
                              exact absurd c_178 (by decide)
                            · skip
                              refine lv_aload_n hx hb d_Mod_list_181 rfl (lv_at hl 1 rfl) ?_
                              refine lv_dup hx hb d_Mod_list_182 rfl ?_
                              refine va_get (D := D) (ci := 4) (v := .int (gR s_159 3)) (C := "HeadDeskModel") (T := F_Mod) (N := 38) hx hb hts a_Mod hown hX.1 hP 0 rfl rfl 4 (by decide) (hts _ m_2_221) (fun _ h9 => h9) rfl d_Mod_list_183 ?_
                              refine lv_iconst (v := 1) hx hb d_Mod_list_186 (by decide) ?_
                              refine lv_iadd hx hb d_Mod_list_187 ?_
                              refine va_put (D := D) (ci := 4) (v := .int ((gR s_159 3) + 1)) (ty := .int) (C := "HeadDeskModel") (T := F_Mod) (N := 38) hx hb hts a_Mod t_Mod k_Mod n_Mod hown hX.1 hP hD hS 0 rfl rfl 4 (by decide) (hts _ m_2_221) (fun _ h9 => h9) rfl (by decide +kernel) rfl rfl (Nat.le_of_ble_eq_true rfl) d_Mod_list_188 (fun H locs hP hD hS => ?_)
                              have hP : va_P D vwCl (mdW bd ce (wR s_159 3 ((gR s_159 3) + 1))) H := hP
                              have hD : va_D A (mdW bd ce (wR s_159 3 ((gR s_159 3) + 1))) := hD
                              have i_188 : mInv (wR s_159 3 ((gR s_159 3) + 1)) := inv_nx (s := s_159) i_159 (see_lt c_168 (by decide))
                              obtain ⟨s_188, e_188⟩ : ∃ z : MS, z = wR s_159 3 ((gR s_159 3) + 1) := ⟨_, rfl⟩
                              have hP : va_P D vwCl (mdW bd ce s_188) H := by rw [e_188]; exact hP
                              have hD : va_D A (mdW bd ce s_188) := by rw [e_188]; exact hD
                              have i_188 : mInv s_188 := by rw [e_188]; exact i_188
                              have j_188 : wInv s_188 := by rw [e_188]; exact j_159
                              refine lv_aload_n hx hb d_Mod_list_191 rfl (lv_at hl 1 rfl) ?_
                              refine lv_bipush (v := 32) hx hb d_Mod_list_192 (by decide) ?_
                              refine hx_Vz (wr := []) (As := [.int 32]) (rest := []) hI (c_Mod_expect s_188 i_188 32 (by decide)) (cw_V (C := "HeadDeskModel") 1 hts m_3_120 m_3_122 ms_28 m_1_5 m_3_123 (by decide +kernel) ⟨by decide, by decide⟩) hX hA hP hD hS [0, 1, 2, 3, 4, 5, 6] [] rfl rfl (by decide) (by decide) (by decide) (va_recv hX.1 hP (ci := 4) (q0 := 0) rfl rfl) rfl hl.1 rfl (Nat.le_of_ble_eq_true rfl) d_Mod_list_194 ⟨Nat.zero_le _, Nat.zero_le _⟩ (fun H locs hP hD hS => ?_)
                              obtain ⟨s_194, e_194⟩ : ∃ z : MS, z = (mExp s_188 32).2 := ⟨_, rfl⟩
                              have i_194 : mInv s_194 := by rw [e_194]; exact inv_exp i_188 (by decide)
                              have j_194 : wInv s_194 := by rw [e_194]; exact wv_kq kq_exp (by decide) (by decide) j_188
                              have hP : va_P D vwCl (mdW bd ce s_194) H := by rw [e_194]; exact hP
                              have hD : va_D A (mdW bd ce s_194) := by rw [e_194]; exact hD
                              refine lv_pop hx hb d_Mod_list_197 rfl ?_
                              refine lv_goto (tgt := 2) hx hb d_Mod_list_198 (by decide) ?_
                              have a_1 : Ad s1 s_159 := by
                                rw [e_159]
                                refine Ad.tr ?_ (ad_kq kq_thg (by decide) (by decide))
                                rw [e_136]
                                refine Ad.tr ?_ (Ad.reg (by decide) (by decide))
                                rw [e_133]
                                refine Ad.tr ?_ (ad_num i_126)
                                rw [e_126]
                                refine Ad.tr ?_ (ad_nx i_100 (see_lt c_116 (by decide)))
                                rw [e_100]
                                refine Ad.tr ?_ (Ad.reg (by decide) (by decide))
                                rw [e_49]
                                refine Ad.tr ?_ (Ad.reg (by decide) (by decide))
                                rw [e_21]
                                refine Ad.tr ?_ (ad_letL 300 _ i_18)
                                rw [e_18]
                                exact Ad.reg (by decide) (by decide)
                              exact ih s_194 H locs ls (by rw [e_194, e_188]; exact li_2 i_159 (see_lt c_168 (by decide)) a_1 (ad_exp (by have q := i_188; rw [e_188] at q; exact q) (by decide)) hj) i_194 (by rw [hF]; (try simp only [mLisL, mLisW, mLisA, if_pos c_10, if_neg c_60, if_pos c_86, if_pos c_107, if_pos c_116, if_pos c_143, if_pos c_148, if_pos c_168, ← e_18, ← e_21, ← e_49, ← e_100, ← e_126, ← e_133, ← e_136, ← e_159, ← e_188, ← e_194, if_true, if_false, Bool.false_eq_true, ↓reduceIte]) <;> (try simp only [mLisB, if_pos c_10, if_neg c_60, if_pos c_86, if_pos c_107, if_pos c_116, if_pos c_143, if_pos c_148, if_pos c_168, ← e_18, ← e_21, ← e_49, ← e_100, ← e_126, ← e_133, ← e_136, ← e_159, ← e_188, ← e_194, if_true, if_false, Bool.false_eq_true, ↓reduceIte]) <;> (try simp only [mLisC, mNx, if_pos c_10, if_neg c_60, if_pos c_86, if_pos c_107, if_pos c_116, if_pos c_143, if_pos c_148, if_pos c_168, ← e_18, ← e_21, ← e_49, ← e_100, ← e_126, ← e_133, ← e_136, ← e_159, ← e_188, ← e_194, if_true, if_false, Bool.false_eq_true, ↓reduceIte]) <;> (try simp only [mLisD, if_pos c_10, if_neg c_60, if_pos c_86, if_pos c_107, if_pos c_116, if_pos c_143, if_pos c_148, if_pos c_168, ← e_18, ← e_21, ← e_49, ← e_100, ← e_126, ← e_133, ← e_136, ← e_159, ← e_188, ← e_194, if_true, if_false, Bool.false_eq_true, ↓reduceIte]) <;> (try simp only [mLisE, mNx, if_pos c_10, if_neg c_60, if_pos c_86, if_pos c_107, if_pos c_116, if_pos c_143, if_pos c_148, if_pos c_168, ← e_18, ← e_21, ← e_49, ← e_100, ← e_126, ← e_133, ← e_136, ← e_159, ← e_188, ← e_194, if_true, if_false, Bool.false_eq_true, ↓reduceIte]) <;> (first | done | with_reducible rfl | rw [e_194])) hP hD hS (lv_sub hl [0, 1, 2] rfl)
                        · skip
                          have c_148 : ¬ (x = 0) := c_148
                          refine lv_aload_n hx hb d_Mod_list_151 rfl (lv_at hl 1 rfl) ?_
                          refine hx_Vv (wr := []) (As := []) (rest := []) hI (c_Mod_requestWord s_136 i_136 j_136) (cw_V (C := "HeadDeskModel") 0 hts m_3_177 m_3_179 ms_39 m_1_5 m_3_180 (by decide +kernel) ⟨by decide, by decide⟩) hX hA hP hD hS [0, 1, 2, 3, 4, 5, 6] [] rfl rfl (by decide) (by decide) (by decide) (va_recv hX.1 hP (ci := 4) (q0 := 0) rfl rfl) rfl hl.1 rfl (Nat.le_of_ble_eq_true rfl) d_Mod_list_152 ⟨Nat.zero_le _, Nat.zero_le _⟩ (fun H locs hP hD hS => ?_)
                          obtain ⟨s_152, e_152⟩ : ∃ z : MS, z = mReq s_136 := ⟨_, rfl⟩
                          have i_152 : mInv s_152 := by rw [e_152]; exact inv_kq kq_req (by decide) (by decide) (by decide) i_136
                          have j_152 : wInv s_152 := by rw [e_152]; exact wv_kq kq_req (by decide) (by decide) j_136
                          have hP : va_P D vwCl (mdW bd ce s_152) H := by rw [e_152]; exact hP
                          have hD : va_D A (mdW bd ce s_152) := by rw [e_152]; exact hD
                          refine lv_goto (tgt := 162) hx hb d_Mod_list_155 (by decide) ?_
                          refine lv_aload_n hx hb d_Mod_list_162 rfl (lv_at hl 1 rfl) ?_
                          refine hx_Vi (wr := []) (As := []) (rest := []) hI (c_Mod_see s_152 i_152 ) (cw_V (C := "HeadDeskModel") 0 hts m_3_109 m_3_111 ms_26 m_1_5 m_3_112 (by decide +kernel) ⟨by decide, by decide⟩) hX hA hP hD hS [0, 1, 2, 3, 4, 5, 6] [] rfl rfl (by decide) (by decide) (by decide) (va_recv hX.1 hP (ci := 4) (q0 := 0) rfl rfl) rfl hl.1 rfl (Nat.le_of_ble_eq_true rfl) d_Mod_list_163 ⟨Nat.zero_le _, Nat.zero_le _⟩ (fun H locs hP hD hS => ?_)
                          have hP : va_P D vwCl (mdW bd ce s_152) H := hP
                          have hD : va_D A (mdW bd ce s_152) := hD
                          refine lv_bipush (v := 44) hx hb d_Mod_list_166 (by decide) ?_
                          refine lv_icmp_ne (tgt := 175) hx hb d_Mod_list_168 (by decide) (fun c_168 => ?_) (fun c_168 => ?_)
                          · skip
                            have c_168 : ¬ (mSee s_152 = 44) := c_168
                            refine lv_iconst (v := 0) hx hb d_Mod_list_175 (by decide) ?_
                            refine lv_istore_n (lv' := [(2, .int 0), (0, .ref (bd 0)), (1, .int x)]) hx hb d_Mod_list_176 rfl hl (by decide) rfl (fun ls hl => ?_)
                            refine lv_iload_n hx hb d_Mod_list_177 rfl (lv_at hl 0 rfl) ?_
                            refine lv_if_eq (tgt := 2) hx hb d_Mod_list_178 (by decide) (fun c_178 => ?_) (fun c_178 => ?_)
                            · skip
                              refine lv_iload_n hx hb d_Mod_list_2 rfl (lv_at hl 0 rfl) ?_
                              refine lv_if_eq (tgt := 201) hx hb d_Mod_list_3 (by decide) (fun c_3 => ?_) (fun c_3 => ?_)
                              · skip
                                exact hret H locs s_152 _ _ hP hD hS (by rw [hF]; (try simp only [mLisL, mLisW, mLisA, if_pos c_10, if_neg c_60, if_pos c_86, if_pos c_107, if_pos c_116, if_pos c_143, if_neg c_148, if_neg c_168, ← e_18, ← e_21, ← e_49, ← e_100, ← e_126, ← e_133, ← e_136, ← e_152, if_true, if_false, Bool.false_eq_true, ↓reduceIte]) <;> (try simp only [mLisB, if_pos c_10, if_neg c_60, if_pos c_86, if_pos c_107, if_pos c_116, if_pos c_143, if_neg c_148, if_neg c_168, ← e_18, ← e_21, ← e_49, ← e_100, ← e_126, ← e_133, ← e_136, ← e_152, if_true, if_false, Bool.false_eq_true, ↓reduceIte]) <;> (try simp only [mLisC, mNx, if_pos c_10, if_neg c_60, if_pos c_86, if_pos c_107, if_pos c_116, if_pos c_143, if_neg c_148, if_neg c_168, ← e_18, ← e_21, ← e_49, ← e_100, ← e_126, ← e_133, ← e_136, ← e_152, if_true, if_false, Bool.false_eq_true, ↓reduceIte]) <;> (try simp only [mLisD, if_pos c_10, if_neg c_60, if_pos c_86, if_pos c_107, if_pos c_116, if_pos c_143, if_neg c_148, if_neg c_168, ← e_18, ← e_21, ← e_49, ← e_100, ← e_126, ← e_133, ← e_136, ← e_152, if_true, if_false, Bool.false_eq_true, ↓reduceIte]) <;> (try simp only [mLisE, mNx, if_pos c_10, if_neg c_60, if_pos c_86, if_pos c_107, if_pos c_116, if_pos c_143, if_neg c_148, if_neg c_168, ← e_18, ← e_21, ← e_49, ← e_100, ← e_126, ← e_133, ← e_136, ← e_152, if_true, if_false, Bool.false_eq_true, ↓reduceIte]) <;> (first | done | with_reducible rfl | rw [e_152])) d_Mod_list_201
                              · skip
                                exact absurd (by decide) c_3
                            · skip
                              exact absurd (by decide) c_178
                          · skip
                            have c_168 : (mSee s_152 = 44) := c_168
                            refine lv_iconst (v := 1) hx hb d_Mod_list_171 (by decide) ?_
                            refine lv_goto (tgt := 176) hx hb d_Mod_list_172 (by decide) ?_
                            refine lv_istore_n (lv' := [(2, .int 1), (0, .ref (bd 0)), (1, .int x)]) hx hb d_Mod_list_176 rfl hl (by decide) rfl (fun ls hl => ?_)
                            refine lv_iload_n hx hb d_Mod_list_177 rfl (lv_at hl 0 rfl) ?_
                            refine lv_if_eq (tgt := 2) hx hb d_Mod_list_178 (by decide) (fun c_178 => ?_) (fun c_178 => ?_)
                            · skip
                              exact absurd c_178 (by decide)
                            · skip
                              refine lv_aload_n hx hb d_Mod_list_181 rfl (lv_at hl 1 rfl) ?_
                              refine lv_dup hx hb d_Mod_list_182 rfl ?_
                              refine va_get (D := D) (ci := 4) (v := .int (gR s_152 3)) (C := "HeadDeskModel") (T := F_Mod) (N := 38) hx hb hts a_Mod hown hX.1 hP 0 rfl rfl 4 (by decide) (hts _ m_2_221) (fun _ h9 => h9) rfl d_Mod_list_183 ?_
                              refine lv_iconst (v := 1) hx hb d_Mod_list_186 (by decide) ?_
                              refine lv_iadd hx hb d_Mod_list_187 ?_
                              refine va_put (D := D) (ci := 4) (v := .int ((gR s_152 3) + 1)) (ty := .int) (C := "HeadDeskModel") (T := F_Mod) (N := 38) hx hb hts a_Mod t_Mod k_Mod n_Mod hown hX.1 hP hD hS 0 rfl rfl 4 (by decide) (hts _ m_2_221) (fun _ h9 => h9) rfl (by decide +kernel) rfl rfl (Nat.le_of_ble_eq_true rfl) d_Mod_list_188 (fun H locs hP hD hS => ?_)
                              have hP : va_P D vwCl (mdW bd ce (wR s_152 3 ((gR s_152 3) + 1))) H := hP
                              have hD : va_D A (mdW bd ce (wR s_152 3 ((gR s_152 3) + 1))) := hD
                              have i_188 : mInv (wR s_152 3 ((gR s_152 3) + 1)) := inv_nx (s := s_152) i_152 (see_lt c_168 (by decide))
                              obtain ⟨s_188, e_188⟩ : ∃ z : MS, z = wR s_152 3 ((gR s_152 3) + 1) := ⟨_, rfl⟩
                              have hP : va_P D vwCl (mdW bd ce s_188) H := by rw [e_188]; exact hP
                              have hD : va_D A (mdW bd ce s_188) := by rw [e_188]; exact hD
                              have i_188 : mInv s_188 := by rw [e_188]; exact i_188
                              have j_188 : wInv s_188 := by rw [e_188]; exact j_152
                              refine lv_aload_n hx hb d_Mod_list_191 rfl (lv_at hl 1 rfl) ?_
                              refine lv_bipush (v := 32) hx hb d_Mod_list_192 (by decide) ?_
                              refine hx_Vz (wr := []) (As := [.int 32]) (rest := []) hI (c_Mod_expect s_188 i_188 32 (by decide)) (cw_V (C := "HeadDeskModel") 1 hts m_3_120 m_3_122 ms_28 m_1_5 m_3_123 (by decide +kernel) ⟨by decide, by decide⟩) hX hA hP hD hS [0, 1, 2, 3, 4, 5, 6] [] rfl rfl (by decide) (by decide) (by decide) (va_recv hX.1 hP (ci := 4) (q0 := 0) rfl rfl) rfl hl.1 rfl (Nat.le_of_ble_eq_true rfl) d_Mod_list_194 ⟨Nat.zero_le _, Nat.zero_le _⟩ (fun H locs hP hD hS => ?_)
                              obtain ⟨s_194, e_194⟩ : ∃ z : MS, z = (mExp s_188 32).2 := ⟨_, rfl⟩
                              have i_194 : mInv s_194 := by rw [e_194]; exact inv_exp i_188 (by decide)
                              have j_194 : wInv s_194 := by rw [e_194]; exact wv_kq kq_exp (by decide) (by decide) j_188
                              have hP : va_P D vwCl (mdW bd ce s_194) H := by rw [e_194]; exact hP
                              have hD : va_D A (mdW bd ce s_194) := by rw [e_194]; exact hD
                              refine lv_pop hx hb d_Mod_list_197 rfl ?_
                              refine lv_goto (tgt := 2) hx hb d_Mod_list_198 (by decide) ?_
                              have a_1 : Ad s1 s_152 := by
                                rw [e_152]
                                refine Ad.tr ?_ (ad_kq kq_req (by decide) (by decide))
                                rw [e_136]
                                refine Ad.tr ?_ (Ad.reg (by decide) (by decide))
                                rw [e_133]
                                refine Ad.tr ?_ (ad_num i_126)
                                rw [e_126]
                                refine Ad.tr ?_ (ad_nx i_100 (see_lt c_116 (by decide)))
                                rw [e_100]
                                refine Ad.tr ?_ (Ad.reg (by decide) (by decide))
                                rw [e_49]
                                refine Ad.tr ?_ (Ad.reg (by decide) (by decide))
                                rw [e_21]
                                refine Ad.tr ?_ (ad_letL 300 _ i_18)
                                rw [e_18]
                                exact Ad.reg (by decide) (by decide)
                              exact ih s_194 H locs ls (by rw [e_194, e_188]; exact li_2 i_152 (see_lt c_168 (by decide)) a_1 (ad_exp (by have q := i_188; rw [e_188] at q; exact q) (by decide)) hj) i_194 (by rw [hF]; (try simp only [mLisL, mLisW, mLisA, if_pos c_10, if_neg c_60, if_pos c_86, if_pos c_107, if_pos c_116, if_pos c_143, if_neg c_148, if_pos c_168, ← e_18, ← e_21, ← e_49, ← e_100, ← e_126, ← e_133, ← e_136, ← e_152, ← e_188, ← e_194, if_true, if_false, Bool.false_eq_true, ↓reduceIte]) <;> (try simp only [mLisB, if_pos c_10, if_neg c_60, if_pos c_86, if_pos c_107, if_pos c_116, if_pos c_143, if_neg c_148, if_pos c_168, ← e_18, ← e_21, ← e_49, ← e_100, ← e_126, ← e_133, ← e_136, ← e_152, ← e_188, ← e_194, if_true, if_false, Bool.false_eq_true, ↓reduceIte]) <;> (try simp only [mLisC, mNx, if_pos c_10, if_neg c_60, if_pos c_86, if_pos c_107, if_pos c_116, if_pos c_143, if_neg c_148, if_pos c_168, ← e_18, ← e_21, ← e_49, ← e_100, ← e_126, ← e_133, ← e_136, ← e_152, ← e_188, ← e_194, if_true, if_false, Bool.false_eq_true, ↓reduceIte]) <;> (try simp only [mLisD, if_pos c_10, if_neg c_60, if_pos c_86, if_pos c_107, if_pos c_116, if_pos c_143, if_neg c_148, if_pos c_168, ← e_18, ← e_21, ← e_49, ← e_100, ← e_126, ← e_133, ← e_136, ← e_152, ← e_188, ← e_194, if_true, if_false, Bool.false_eq_true, ↓reduceIte]) <;> (try simp only [mLisE, mNx, if_pos c_10, if_neg c_60, if_pos c_86, if_pos c_107, if_pos c_116, if_pos c_143, if_neg c_148, if_pos c_168, ← e_18, ← e_21, ← e_49, ← e_100, ← e_126, ← e_133, ← e_136, ← e_152, ← e_188, ← e_194, if_true, if_false, Bool.false_eq_true, ↓reduceIte]) <;> (first | done | with_reducible rfl | rw [e_194])) hP hD hS (lv_sub hl [0, 1, 2] rfl)
                      · skip
                        have c_143 : ¬ (gR s_136 4 = 0) := c_143
                        exact hret H locs s_136 _ _ hP hD hS (by rw [hF]; (try simp only [mLisL, mLisW, mLisA, if_pos c_10, if_neg c_60, if_pos c_86, if_pos c_107, if_pos c_116, if_neg c_143, ← e_18, ← e_21, ← e_49, ← e_100, ← e_126, ← e_133, ← e_136, if_true, if_false, Bool.false_eq_true, ↓reduceIte]) <;> (try simp only [mLisB, if_pos c_10, if_neg c_60, if_pos c_86, if_pos c_107, if_pos c_116, if_neg c_143, ← e_18, ← e_21, ← e_49, ← e_100, ← e_126, ← e_133, ← e_136, if_true, if_false, Bool.false_eq_true, ↓reduceIte]) <;> (try simp only [mLisC, mNx, if_pos c_10, if_neg c_60, if_pos c_86, if_pos c_107, if_pos c_116, if_neg c_143, ← e_18, ← e_21, ← e_49, ← e_100, ← e_126, ← e_133, ← e_136, if_true, if_false, Bool.false_eq_true, ↓reduceIte]) <;> (try simp only [mLisD, if_pos c_10, if_neg c_60, if_pos c_86, if_pos c_107, if_pos c_116, if_neg c_143, ← e_18, ← e_21, ← e_49, ← e_100, ← e_126, ← e_133, ← e_136, if_true, if_false, Bool.false_eq_true, ↓reduceIte]) <;> (try simp only [mLisE, mNx, if_pos c_10, if_neg c_60, if_pos c_86, if_pos c_107, if_pos c_116, if_neg c_143, ← e_18, ← e_21, ← e_49, ← e_100, ← e_126, ← e_133, ← e_136, if_true, if_false, Bool.false_eq_true, ↓reduceIte]) <;> (first | done | with_reducible rfl | rw [e_136])) d_Mod_list_146
                · skip
                  have c_86 : ¬ ((gR s_49 3) - (gR s_49 29) ≤ 30) := c_86
                  refine lv_aload_n hx hb d_Mod_list_89 rfl (lv_at hl 1 rfl) ?_
                  refine lv_aload_n hx hb d_Mod_list_90 rfl (lv_at hl 1 rfl) ?_
                  refine va_get (D := D) (ci := 4) (v := .int (gR s_49 29)) (C := "HeadDeskModel") (T := F_Mod) (N := 38) hx hb hts a_Mod hown hX.1 hP 0 rfl rfl 35 (by decide) (hts _ m_3_12) (fun _ h9 => h9) rfl d_Mod_list_91 ?_
                  refine hx_Vz (wr := []) (As := [.int (gR s_49 29)]) (rest := []) hI (c_Mod_wrong s_49 i_49 (gR s_49 29)) (cw_V (C := "HeadDeskModel") 1 hts m_3_124 m_3_126 ms_29 m_1_5 m_3_127 (by decide +kernel) ⟨by decide, by decide⟩) hX hA hP hD hS [0, 1, 2, 3, 4, 5, 6] [] rfl rfl (by decide) (by decide) (by decide) (va_recv hX.1 hP (ci := 4) (q0 := 0) rfl rfl) rfl hl.1 rfl (Nat.le_of_ble_eq_true rfl) d_Mod_list_94 ⟨Nat.zero_le _, Nat.zero_le _⟩ (fun H locs hP hD hS => ?_)
                  obtain ⟨s_94, e_94⟩ : ∃ z : MS, z = mWr s_49 (gR s_49 29) := ⟨_, rfl⟩
                  have i_94 : mInv s_94 := by rw [e_94]; exact inv_wr i_49
                  have j_94 : wInv s_94 := by rw [e_94]; exact wv_kq kq_wr (by decide) (by decide) j_49
                  have hP : va_P D vwCl (mdW bd ce s_94) H := by rw [e_94]; exact hP
                  have hD : va_D A (mdW bd ce s_94) := by rw [e_94]; exact hD
                  refine lv_pop hx hb d_Mod_list_97 rfl ?_
                  refine lv_aload_n hx hb d_Mod_list_98 rfl (lv_at hl 1 rfl) ?_
                  refine lv_iconst (v := (-1)) hx hb d_Mod_list_99 (by decide) ?_
                  refine va_put (D := D) (ci := 4) (v := .int (-1)) (ty := .int) (C := "HeadDeskModel") (T := F_Mod) (N := 38) hx hb hts a_Mod t_Mod k_Mod n_Mod hown hX.1 hP hD hS 0 rfl rfl 37 (by decide) (hts _ m_3_14) (fun _ h9 => h9) rfl (by decide +kernel) rfl rfl (Nat.le_of_ble_eq_true rfl) d_Mod_list_100 (fun H locs hP hD hS => ?_)
                  have hP : va_P D vwCl (mdW bd ce (wR s_94 31 (-1))) H := hP
                  have hD : va_D A (mdW bd ce (wR s_94 31 (-1))) := hD
                  obtain ⟨s_100, e_100⟩ : ∃ z : MS, z = wR s_94 31 (-1) := ⟨_, rfl⟩
                  have hP : va_P D vwCl (mdW bd ce s_100) H := by rw [e_100]; exact hP
                  have hD : va_D A (mdW bd ce s_100) := by rw [e_100]; exact hD
                  have i_100 : mInv s_100 := by rw [e_100]; exact i_94
                  have j_100 : wInv s_100 := by rw [e_100]; exact j_94
                  refine lv_aload_n hx hb d_Mod_list_103 rfl (lv_at hl 1 rfl) ?_
                  refine va_get (D := D) (ci := 4) (v := .int (gR s_100 4)) (C := "HeadDeskModel") (T := F_Mod) (N := 38) hx hb hts a_Mod hown hX.1 hP 0 rfl rfl 5 (by decide) (hts _ m_2_222) (fun _ h9 => h9) rfl d_Mod_list_104 ?_
                  refine lv_if_ne (tgt := 139) hx hb d_Mod_list_107 (by decide) (fun c_107 => ?_) (fun c_107 => ?_)
                  · skip
                    have c_107 : ¬ (gR s_100 4 = 0) := c_107
                    refine lv_aload_n hx hb d_Mod_list_139 rfl (lv_at hl 1 rfl) ?_
                    refine va_get (D := D) (ci := 4) (v := .int (gR s_100 4)) (C := "HeadDeskModel") (T := F_Mod) (N := 38) hx hb hts a_Mod hown hX.1 hP 0 rfl rfl 5 (by decide) (hts _ m_2_222) (fun _ h9 => h9) rfl d_Mod_list_140 ?_
                    refine lv_if_eq (tgt := 147) hx hb d_Mod_list_143 (by decide) (fun c_143 => ?_) (fun c_143 => ?_)
                    · skip
                      exact absurd c_143 c_107
                    · skip
                      have c_143 : ¬ (gR s_100 4 = 0) := c_143
                      exact hret H locs s_100 _ _ hP hD hS (by rw [hF]; (try simp only [mLisL, mLisW, mLisA, if_pos c_10, if_neg c_60, if_neg c_86, if_neg c_107, if_neg c_143, ← e_18, ← e_21, ← e_49, ← e_94, ← e_100, if_true, if_false, Bool.false_eq_true, ↓reduceIte]) <;> (try simp only [mLisB, if_pos c_10, if_neg c_60, if_neg c_86, if_neg c_107, if_neg c_143, ← e_18, ← e_21, ← e_49, ← e_94, ← e_100, if_true, if_false, Bool.false_eq_true, ↓reduceIte]) <;> (try simp only [mLisC, mNx, if_pos c_10, if_neg c_60, if_neg c_86, if_neg c_107, if_neg c_143, ← e_18, ← e_21, ← e_49, ← e_94, ← e_100, if_true, if_false, Bool.false_eq_true, ↓reduceIte]) <;> (try simp only [mLisD, if_pos c_10, if_neg c_60, if_neg c_86, if_neg c_107, if_neg c_143, ← e_18, ← e_21, ← e_49, ← e_94, ← e_100, if_true, if_false, Bool.false_eq_true, ↓reduceIte]) <;> (try simp only [mLisE, mNx, if_pos c_10, if_neg c_60, if_neg c_86, if_neg c_107, if_neg c_143, ← e_18, ← e_21, ← e_49, ← e_94, ← e_100, if_true, if_false, Bool.false_eq_true, ↓reduceIte]) <;> (first | done | with_reducible rfl | rw [e_100])) d_Mod_list_146
                  · skip
                    have c_107 : (gR s_100 4 = 0) := c_107
                    refine lv_aload_n hx hb d_Mod_list_110 rfl (lv_at hl 1 rfl) ?_
                    refine hx_Vi (wr := []) (As := []) (rest := []) hI (c_Mod_see s_100 i_100 ) (cw_V (C := "HeadDeskModel") 0 hts m_3_109 m_3_111 ms_26 m_1_5 m_3_112 (by decide +kernel) ⟨by decide, by decide⟩) hX hA hP hD hS [0, 1, 2, 3, 4, 5, 6] [] rfl rfl (by decide) (by decide) (by decide) (va_recv hX.1 hP (ci := 4) (q0 := 0) rfl rfl) rfl hl.1 rfl (Nat.le_of_ble_eq_true rfl) d_Mod_list_111 ⟨Nat.zero_le _, Nat.zero_le _⟩ (fun H locs hP hD hS => ?_)
                    have hP : va_P D vwCl (mdW bd ce s_100) H := hP
                    have hD : va_D A (mdW bd ce s_100) := hD
                    refine lv_bipush (v := 61) hx hb d_Mod_list_114 (by decide) ?_
                    refine lv_icmp_ne (tgt := 139) hx hb d_Mod_list_116 (by decide) (fun c_116 => ?_) (fun c_116 => ?_)
                    · skip
                      have c_116 : ¬ (mSee s_100 = 61) := c_116
                      refine lv_aload_n hx hb d_Mod_list_139 rfl (lv_at hl 1 rfl) ?_
                      refine va_get (D := D) (ci := 4) (v := .int (gR s_100 4)) (C := "HeadDeskModel") (T := F_Mod) (N := 38) hx hb hts a_Mod hown hX.1 hP 0 rfl rfl 5 (by decide) (hts _ m_2_222) (fun _ h9 => h9) rfl d_Mod_list_140 ?_
                      refine lv_if_eq (tgt := 147) hx hb d_Mod_list_143 (by decide) (fun c_143 => ?_) (fun c_143 => ?_)
                      · skip
                        have c_143 : (gR s_100 4 = 0) := c_143
                        refine lv_iload_n hx hb d_Mod_list_147 rfl (lv_at hl 2 rfl) ?_
                        refine lv_if_eq (tgt := 158) hx hb d_Mod_list_148 (by decide) (fun c_148 => ?_) (fun c_148 => ?_)
                        · skip
                          have c_148 : (x = 0) := c_148
                          refine lv_aload_n hx hb d_Mod_list_158 rfl (lv_at hl 1 rfl) ?_
                          refine hx_Vv (wr := []) (As := []) (rest := []) hI (c_Mod_thingWord s_100 i_100 j_100) (cw_V (C := "HeadDeskModel") 0 hts m_3_190 m_3_192 ms_41 m_1_5 m_3_193 (by decide +kernel) ⟨by decide, by decide⟩) hX hA hP hD hS [0, 1, 2, 3, 4, 5, 6] [] rfl rfl (by decide) (by decide) (by decide) (va_recv hX.1 hP (ci := 4) (q0 := 0) rfl rfl) rfl hl.1 rfl (Nat.le_of_ble_eq_true rfl) d_Mod_list_159 ⟨Nat.zero_le _, Nat.zero_le _⟩ (fun H locs hP hD hS => ?_)
                          obtain ⟨s_159, e_159⟩ : ∃ z : MS, z = mThg s_100 := ⟨_, rfl⟩
                          have i_159 : mInv s_159 := by rw [e_159]; exact inv_kq kq_thg (by decide) (by decide) (by decide) i_100
                          have j_159 : wInv s_159 := by rw [e_159]; exact wv_kq kq_thg (by decide) (by decide) j_100
                          have hP : va_P D vwCl (mdW bd ce s_159) H := by rw [e_159]; exact hP
                          have hD : va_D A (mdW bd ce s_159) := by rw [e_159]; exact hD
                          refine lv_aload_n hx hb d_Mod_list_162 rfl (lv_at hl 1 rfl) ?_
                          refine hx_Vi (wr := []) (As := []) (rest := []) hI (c_Mod_see s_159 i_159 ) (cw_V (C := "HeadDeskModel") 0 hts m_3_109 m_3_111 ms_26 m_1_5 m_3_112 (by decide +kernel) ⟨by decide, by decide⟩) hX hA hP hD hS [0, 1, 2, 3, 4, 5, 6] [] rfl rfl (by decide) (by decide) (by decide) (va_recv hX.1 hP (ci := 4) (q0 := 0) rfl rfl) rfl hl.1 rfl (Nat.le_of_ble_eq_true rfl) d_Mod_list_163 ⟨Nat.zero_le _, Nat.zero_le _⟩ (fun H locs hP hD hS => ?_)
                          have hP : va_P D vwCl (mdW bd ce s_159) H := hP
                          have hD : va_D A (mdW bd ce s_159) := hD
                          refine lv_bipush (v := 44) hx hb d_Mod_list_166 (by decide) ?_
                          refine lv_icmp_ne (tgt := 175) hx hb d_Mod_list_168 (by decide) (fun c_168 => ?_) (fun c_168 => ?_)
                          · skip
                            have c_168 : ¬ (mSee s_159 = 44) := c_168
                            refine lv_iconst (v := 0) hx hb d_Mod_list_175 (by decide) ?_
                            refine lv_istore_n (lv' := [(2, .int 0), (0, .ref (bd 0)), (1, .int x)]) hx hb d_Mod_list_176 rfl hl (by decide) rfl (fun ls hl => ?_)
                            refine lv_iload_n hx hb d_Mod_list_177 rfl (lv_at hl 0 rfl) ?_
                            refine lv_if_eq (tgt := 2) hx hb d_Mod_list_178 (by decide) (fun c_178 => ?_) (fun c_178 => ?_)
                            · skip
                              refine lv_iload_n hx hb d_Mod_list_2 rfl (lv_at hl 0 rfl) ?_
                              refine lv_if_eq (tgt := 201) hx hb d_Mod_list_3 (by decide) (fun c_3 => ?_) (fun c_3 => ?_)
                              · skip
                                exact hret H locs s_159 _ _ hP hD hS (by rw [hF]; (try simp only [mLisL, mLisW, mLisA, if_pos c_10, if_neg c_60, if_neg c_86, if_pos c_107, if_neg c_116, if_pos c_143, if_pos c_148, if_neg c_168, ← e_18, ← e_21, ← e_49, ← e_94, ← e_100, ← e_159, if_true, if_false, Bool.false_eq_true, ↓reduceIte]) <;> (try simp only [mLisB, if_pos c_10, if_neg c_60, if_neg c_86, if_pos c_107, if_neg c_116, if_pos c_143, if_pos c_148, if_neg c_168, ← e_18, ← e_21, ← e_49, ← e_94, ← e_100, ← e_159, if_true, if_false, Bool.false_eq_true, ↓reduceIte]) <;> (try simp only [mLisC, mNx, if_pos c_10, if_neg c_60, if_neg c_86, if_pos c_107, if_neg c_116, if_pos c_143, if_pos c_148, if_neg c_168, ← e_18, ← e_21, ← e_49, ← e_94, ← e_100, ← e_159, if_true, if_false, Bool.false_eq_true, ↓reduceIte]) <;> (try simp only [mLisD, if_pos c_10, if_neg c_60, if_neg c_86, if_pos c_107, if_neg c_116, if_pos c_143, if_pos c_148, if_neg c_168, ← e_18, ← e_21, ← e_49, ← e_94, ← e_100, ← e_159, if_true, if_false, Bool.false_eq_true, ↓reduceIte]) <;> (try simp only [mLisE, mNx, if_pos c_10, if_neg c_60, if_neg c_86, if_pos c_107, if_neg c_116, if_pos c_143, if_pos c_148, if_neg c_168, ← e_18, ← e_21, ← e_49, ← e_94, ← e_100, ← e_159, if_true, if_false, Bool.false_eq_true, ↓reduceIte]) <;> (first | done | with_reducible rfl | rw [e_159])) d_Mod_list_201
                              · skip
                                exact absurd (by decide) c_3
                            · skip
                              exact absurd (by decide) c_178
                          · skip
                            have c_168 : (mSee s_159 = 44) := c_168
                            refine lv_iconst (v := 1) hx hb d_Mod_list_171 (by decide) ?_
                            refine lv_goto (tgt := 176) hx hb d_Mod_list_172 (by decide) ?_
                            refine lv_istore_n (lv' := [(2, .int 1), (0, .ref (bd 0)), (1, .int x)]) hx hb d_Mod_list_176 rfl hl (by decide) rfl (fun ls hl => ?_)
                            refine lv_iload_n hx hb d_Mod_list_177 rfl (lv_at hl 0 rfl) ?_
                            refine lv_if_eq (tgt := 2) hx hb d_Mod_list_178 (by decide) (fun c_178 => ?_) (fun c_178 => ?_)
                            · skip
                              exact absurd c_178 (by decide)
                            · skip
                              refine lv_aload_n hx hb d_Mod_list_181 rfl (lv_at hl 1 rfl) ?_
                              refine lv_dup hx hb d_Mod_list_182 rfl ?_
                              refine va_get (D := D) (ci := 4) (v := .int (gR s_159 3)) (C := "HeadDeskModel") (T := F_Mod) (N := 38) hx hb hts a_Mod hown hX.1 hP 0 rfl rfl 4 (by decide) (hts _ m_2_221) (fun _ h9 => h9) rfl d_Mod_list_183 ?_
                              refine lv_iconst (v := 1) hx hb d_Mod_list_186 (by decide) ?_
                              refine lv_iadd hx hb d_Mod_list_187 ?_
                              refine va_put (D := D) (ci := 4) (v := .int ((gR s_159 3) + 1)) (ty := .int) (C := "HeadDeskModel") (T := F_Mod) (N := 38) hx hb hts a_Mod t_Mod k_Mod n_Mod hown hX.1 hP hD hS 0 rfl rfl 4 (by decide) (hts _ m_2_221) (fun _ h9 => h9) rfl (by decide +kernel) rfl rfl (Nat.le_of_ble_eq_true rfl) d_Mod_list_188 (fun H locs hP hD hS => ?_)
                              have hP : va_P D vwCl (mdW bd ce (wR s_159 3 ((gR s_159 3) + 1))) H := hP
                              have hD : va_D A (mdW bd ce (wR s_159 3 ((gR s_159 3) + 1))) := hD
                              have i_188 : mInv (wR s_159 3 ((gR s_159 3) + 1)) := inv_nx (s := s_159) i_159 (see_lt c_168 (by decide))
                              obtain ⟨s_188, e_188⟩ : ∃ z : MS, z = wR s_159 3 ((gR s_159 3) + 1) := ⟨_, rfl⟩
                              have hP : va_P D vwCl (mdW bd ce s_188) H := by rw [e_188]; exact hP
                              have hD : va_D A (mdW bd ce s_188) := by rw [e_188]; exact hD
                              have i_188 : mInv s_188 := by rw [e_188]; exact i_188
                              have j_188 : wInv s_188 := by rw [e_188]; exact j_159
                              refine lv_aload_n hx hb d_Mod_list_191 rfl (lv_at hl 1 rfl) ?_
                              refine lv_bipush (v := 32) hx hb d_Mod_list_192 (by decide) ?_
                              refine hx_Vz (wr := []) (As := [.int 32]) (rest := []) hI (c_Mod_expect s_188 i_188 32 (by decide)) (cw_V (C := "HeadDeskModel") 1 hts m_3_120 m_3_122 ms_28 m_1_5 m_3_123 (by decide +kernel) ⟨by decide, by decide⟩) hX hA hP hD hS [0, 1, 2, 3, 4, 5, 6] [] rfl rfl (by decide) (by decide) (by decide) (va_recv hX.1 hP (ci := 4) (q0 := 0) rfl rfl) rfl hl.1 rfl (Nat.le_of_ble_eq_true rfl) d_Mod_list_194 ⟨Nat.zero_le _, Nat.zero_le _⟩ (fun H locs hP hD hS => ?_)
                              obtain ⟨s_194, e_194⟩ : ∃ z : MS, z = (mExp s_188 32).2 := ⟨_, rfl⟩
                              have i_194 : mInv s_194 := by rw [e_194]; exact inv_exp i_188 (by decide)
                              have j_194 : wInv s_194 := by rw [e_194]; exact wv_kq kq_exp (by decide) (by decide) j_188
                              have hP : va_P D vwCl (mdW bd ce s_194) H := by rw [e_194]; exact hP
                              have hD : va_D A (mdW bd ce s_194) := by rw [e_194]; exact hD
                              refine lv_pop hx hb d_Mod_list_197 rfl ?_
                              refine lv_goto (tgt := 2) hx hb d_Mod_list_198 (by decide) ?_
                              have a_1 : Ad s1 s_159 := by
                                rw [e_159]
                                refine Ad.tr ?_ (ad_kq kq_thg (by decide) (by decide))
                                rw [e_100]
                                refine Ad.tr ?_ (Ad.reg (by decide) (by decide))
                                rw [e_94]
                                refine Ad.tr ?_ ad_wr
                                rw [e_49]
                                refine Ad.tr ?_ (Ad.reg (by decide) (by decide))
                                rw [e_21]
                                refine Ad.tr ?_ (ad_letL 300 _ i_18)
                                rw [e_18]
                                exact Ad.reg (by decide) (by decide)
                              exact ih s_194 H locs ls (by rw [e_194, e_188]; exact li_2 i_159 (see_lt c_168 (by decide)) a_1 (ad_exp (by have q := i_188; rw [e_188] at q; exact q) (by decide)) hj) i_194 (by rw [hF]; (try simp only [mLisL, mLisW, mLisA, if_pos c_10, if_neg c_60, if_neg c_86, if_pos c_107, if_neg c_116, if_pos c_143, if_pos c_148, if_pos c_168, ← e_18, ← e_21, ← e_49, ← e_94, ← e_100, ← e_159, ← e_188, ← e_194, if_true, if_false, Bool.false_eq_true, ↓reduceIte]) <;> (try simp only [mLisB, if_pos c_10, if_neg c_60, if_neg c_86, if_pos c_107, if_neg c_116, if_pos c_143, if_pos c_148, if_pos c_168, ← e_18, ← e_21, ← e_49, ← e_94, ← e_100, ← e_159, ← e_188, ← e_194, if_true, if_false, Bool.false_eq_true, ↓reduceIte]) <;> (try simp only [mLisC, mNx, if_pos c_10, if_neg c_60, if_neg c_86, if_pos c_107, if_neg c_116, if_pos c_143, if_pos c_148, if_pos c_168, ← e_18, ← e_21, ← e_49, ← e_94, ← e_100, ← e_159, ← e_188, ← e_194, if_true, if_false, Bool.false_eq_true, ↓reduceIte]) <;> (try simp only [mLisD, if_pos c_10, if_neg c_60, if_neg c_86, if_pos c_107, if_neg c_116, if_pos c_143, if_pos c_148, if_pos c_168, ← e_18, ← e_21, ← e_49, ← e_94, ← e_100, ← e_159, ← e_188, ← e_194, if_true, if_false, Bool.false_eq_true, ↓reduceIte]) <;> (try simp only [mLisE, mNx, if_pos c_10, if_neg c_60, if_neg c_86, if_pos c_107, if_neg c_116, if_pos c_143, if_pos c_148, if_pos c_168, ← e_18, ← e_21, ← e_49, ← e_94, ← e_100, ← e_159, ← e_188, ← e_194, if_true, if_false, Bool.false_eq_true, ↓reduceIte]) <;> (first | done | with_reducible rfl | rw [e_194])) hP hD hS (lv_sub hl [0, 1, 2] rfl)
                        · skip
                          have c_148 : ¬ (x = 0) := c_148
                          refine lv_aload_n hx hb d_Mod_list_151 rfl (lv_at hl 1 rfl) ?_
                          refine hx_Vv (wr := []) (As := []) (rest := []) hI (c_Mod_requestWord s_100 i_100 j_100) (cw_V (C := "HeadDeskModel") 0 hts m_3_177 m_3_179 ms_39 m_1_5 m_3_180 (by decide +kernel) ⟨by decide, by decide⟩) hX hA hP hD hS [0, 1, 2, 3, 4, 5, 6] [] rfl rfl (by decide) (by decide) (by decide) (va_recv hX.1 hP (ci := 4) (q0 := 0) rfl rfl) rfl hl.1 rfl (Nat.le_of_ble_eq_true rfl) d_Mod_list_152 ⟨Nat.zero_le _, Nat.zero_le _⟩ (fun H locs hP hD hS => ?_)
                          obtain ⟨s_152, e_152⟩ : ∃ z : MS, z = mReq s_100 := ⟨_, rfl⟩
                          have i_152 : mInv s_152 := by rw [e_152]; exact inv_kq kq_req (by decide) (by decide) (by decide) i_100
                          have j_152 : wInv s_152 := by rw [e_152]; exact wv_kq kq_req (by decide) (by decide) j_100
                          have hP : va_P D vwCl (mdW bd ce s_152) H := by rw [e_152]; exact hP
                          have hD : va_D A (mdW bd ce s_152) := by rw [e_152]; exact hD
                          refine lv_goto (tgt := 162) hx hb d_Mod_list_155 (by decide) ?_
                          refine lv_aload_n hx hb d_Mod_list_162 rfl (lv_at hl 1 rfl) ?_
                          refine hx_Vi (wr := []) (As := []) (rest := []) hI (c_Mod_see s_152 i_152 ) (cw_V (C := "HeadDeskModel") 0 hts m_3_109 m_3_111 ms_26 m_1_5 m_3_112 (by decide +kernel) ⟨by decide, by decide⟩) hX hA hP hD hS [0, 1, 2, 3, 4, 5, 6] [] rfl rfl (by decide) (by decide) (by decide) (va_recv hX.1 hP (ci := 4) (q0 := 0) rfl rfl) rfl hl.1 rfl (Nat.le_of_ble_eq_true rfl) d_Mod_list_163 ⟨Nat.zero_le _, Nat.zero_le _⟩ (fun H locs hP hD hS => ?_)
                          have hP : va_P D vwCl (mdW bd ce s_152) H := hP
                          have hD : va_D A (mdW bd ce s_152) := hD
                          refine lv_bipush (v := 44) hx hb d_Mod_list_166 (by decide) ?_
                          refine lv_icmp_ne (tgt := 175) hx hb d_Mod_list_168 (by decide) (fun c_168 => ?_) (fun c_168 => ?_)
                          · skip
                            have c_168 : ¬ (mSee s_152 = 44) := c_168
                            refine lv_iconst (v := 0) hx hb d_Mod_list_175 (by decide) ?_
                            refine lv_istore_n (lv' := [(2, .int 0), (0, .ref (bd 0)), (1, .int x)]) hx hb d_Mod_list_176 rfl hl (by decide) rfl (fun ls hl => ?_)
                            refine lv_iload_n hx hb d_Mod_list_177 rfl (lv_at hl 0 rfl) ?_
                            refine lv_if_eq (tgt := 2) hx hb d_Mod_list_178 (by decide) (fun c_178 => ?_) (fun c_178 => ?_)
                            · skip
                              refine lv_iload_n hx hb d_Mod_list_2 rfl (lv_at hl 0 rfl) ?_
                              refine lv_if_eq (tgt := 201) hx hb d_Mod_list_3 (by decide) (fun c_3 => ?_) (fun c_3 => ?_)
                              · skip
                                exact hret H locs s_152 _ _ hP hD hS (by rw [hF]; (try simp only [mLisL, mLisW, mLisA, if_pos c_10, if_neg c_60, if_neg c_86, if_pos c_107, if_neg c_116, if_pos c_143, if_neg c_148, if_neg c_168, ← e_18, ← e_21, ← e_49, ← e_94, ← e_100, ← e_152, if_true, if_false, Bool.false_eq_true, ↓reduceIte]) <;> (try simp only [mLisB, if_pos c_10, if_neg c_60, if_neg c_86, if_pos c_107, if_neg c_116, if_pos c_143, if_neg c_148, if_neg c_168, ← e_18, ← e_21, ← e_49, ← e_94, ← e_100, ← e_152, if_true, if_false, Bool.false_eq_true, ↓reduceIte]) <;> (try simp only [mLisC, mNx, if_pos c_10, if_neg c_60, if_neg c_86, if_pos c_107, if_neg c_116, if_pos c_143, if_neg c_148, if_neg c_168, ← e_18, ← e_21, ← e_49, ← e_94, ← e_100, ← e_152, if_true, if_false, Bool.false_eq_true, ↓reduceIte]) <;> (try simp only [mLisD, if_pos c_10, if_neg c_60, if_neg c_86, if_pos c_107, if_neg c_116, if_pos c_143, if_neg c_148, if_neg c_168, ← e_18, ← e_21, ← e_49, ← e_94, ← e_100, ← e_152, if_true, if_false, Bool.false_eq_true, ↓reduceIte]) <;> (try simp only [mLisE, mNx, if_pos c_10, if_neg c_60, if_neg c_86, if_pos c_107, if_neg c_116, if_pos c_143, if_neg c_148, if_neg c_168, ← e_18, ← e_21, ← e_49, ← e_94, ← e_100, ← e_152, if_true, if_false, Bool.false_eq_true, ↓reduceIte]) <;> (first | done | with_reducible rfl | rw [e_152])) d_Mod_list_201
                              · skip
                                exact absurd (by decide) c_3
                            · skip
                              exact absurd (by decide) c_178
                          · skip
                            have c_168 : (mSee s_152 = 44) := c_168
                            refine lv_iconst (v := 1) hx hb d_Mod_list_171 (by decide) ?_
                            refine lv_goto (tgt := 176) hx hb d_Mod_list_172 (by decide) ?_
                            refine lv_istore_n (lv' := [(2, .int 1), (0, .ref (bd 0)), (1, .int x)]) hx hb d_Mod_list_176 rfl hl (by decide) rfl (fun ls hl => ?_)
                            refine lv_iload_n hx hb d_Mod_list_177 rfl (lv_at hl 0 rfl) ?_
                            refine lv_if_eq (tgt := 2) hx hb d_Mod_list_178 (by decide) (fun c_178 => ?_) (fun c_178 => ?_)
                            · skip
                              exact absurd c_178 (by decide)
                            · skip
                              refine lv_aload_n hx hb d_Mod_list_181 rfl (lv_at hl 1 rfl) ?_
                              refine lv_dup hx hb d_Mod_list_182 rfl ?_
                              refine va_get (D := D) (ci := 4) (v := .int (gR s_152 3)) (C := "HeadDeskModel") (T := F_Mod) (N := 38) hx hb hts a_Mod hown hX.1 hP 0 rfl rfl 4 (by decide) (hts _ m_2_221) (fun _ h9 => h9) rfl d_Mod_list_183 ?_
                              refine lv_iconst (v := 1) hx hb d_Mod_list_186 (by decide) ?_
                              refine lv_iadd hx hb d_Mod_list_187 ?_
                              refine va_put (D := D) (ci := 4) (v := .int ((gR s_152 3) + 1)) (ty := .int) (C := "HeadDeskModel") (T := F_Mod) (N := 38) hx hb hts a_Mod t_Mod k_Mod n_Mod hown hX.1 hP hD hS 0 rfl rfl 4 (by decide) (hts _ m_2_221) (fun _ h9 => h9) rfl (by decide +kernel) rfl rfl (Nat.le_of_ble_eq_true rfl) d_Mod_list_188 (fun H locs hP hD hS => ?_)
                              have hP : va_P D vwCl (mdW bd ce (wR s_152 3 ((gR s_152 3) + 1))) H := hP
                              have hD : va_D A (mdW bd ce (wR s_152 3 ((gR s_152 3) + 1))) := hD
                              have i_188 : mInv (wR s_152 3 ((gR s_152 3) + 1)) := inv_nx (s := s_152) i_152 (see_lt c_168 (by decide))
                              obtain ⟨s_188, e_188⟩ : ∃ z : MS, z = wR s_152 3 ((gR s_152 3) + 1) := ⟨_, rfl⟩
                              have hP : va_P D vwCl (mdW bd ce s_188) H := by rw [e_188]; exact hP
                              have hD : va_D A (mdW bd ce s_188) := by rw [e_188]; exact hD
                              have i_188 : mInv s_188 := by rw [e_188]; exact i_188
                              have j_188 : wInv s_188 := by rw [e_188]; exact j_152
                              refine lv_aload_n hx hb d_Mod_list_191 rfl (lv_at hl 1 rfl) ?_
                              refine lv_bipush (v := 32) hx hb d_Mod_list_192 (by decide) ?_
                              refine hx_Vz (wr := []) (As := [.int 32]) (rest := []) hI (c_Mod_expect s_188 i_188 32 (by decide)) (cw_V (C := "HeadDeskModel") 1 hts m_3_120 m_3_122 ms_28 m_1_5 m_3_123 (by decide +kernel) ⟨by decide, by decide⟩) hX hA hP hD hS [0, 1, 2, 3, 4, 5, 6] [] rfl rfl (by decide) (by decide) (by decide) (va_recv hX.1 hP (ci := 4) (q0 := 0) rfl rfl) rfl hl.1 rfl (Nat.le_of_ble_eq_true rfl) d_Mod_list_194 ⟨Nat.zero_le _, Nat.zero_le _⟩ (fun H locs hP hD hS => ?_)
                              obtain ⟨s_194, e_194⟩ : ∃ z : MS, z = (mExp s_188 32).2 := ⟨_, rfl⟩
                              have i_194 : mInv s_194 := by rw [e_194]; exact inv_exp i_188 (by decide)
                              have j_194 : wInv s_194 := by rw [e_194]; exact wv_kq kq_exp (by decide) (by decide) j_188
                              have hP : va_P D vwCl (mdW bd ce s_194) H := by rw [e_194]; exact hP
                              have hD : va_D A (mdW bd ce s_194) := by rw [e_194]; exact hD
                              refine lv_pop hx hb d_Mod_list_197 rfl ?_
                              refine lv_goto (tgt := 2) hx hb d_Mod_list_198 (by decide) ?_
                              have a_1 : Ad s1 s_152 := by
                                rw [e_152]
                                refine Ad.tr ?_ (ad_kq kq_req (by decide) (by decide))
                                rw [e_100]
                                refine Ad.tr ?_ (Ad.reg (by decide) (by decide))
                                rw [e_94]
                                refine Ad.tr ?_ ad_wr
                                rw [e_49]
                                refine Ad.tr ?_ (Ad.reg (by decide) (by decide))
                                rw [e_21]
                                refine Ad.tr ?_ (ad_letL 300 _ i_18)
                                rw [e_18]
                                exact Ad.reg (by decide) (by decide)
                              exact ih s_194 H locs ls (by rw [e_194, e_188]; exact li_2 i_152 (see_lt c_168 (by decide)) a_1 (ad_exp (by have q := i_188; rw [e_188] at q; exact q) (by decide)) hj) i_194 (by rw [hF]; (try simp only [mLisL, mLisW, mLisA, if_pos c_10, if_neg c_60, if_neg c_86, if_pos c_107, if_neg c_116, if_pos c_143, if_neg c_148, if_pos c_168, ← e_18, ← e_21, ← e_49, ← e_94, ← e_100, ← e_152, ← e_188, ← e_194, if_true, if_false, Bool.false_eq_true, ↓reduceIte]) <;> (try simp only [mLisB, if_pos c_10, if_neg c_60, if_neg c_86, if_pos c_107, if_neg c_116, if_pos c_143, if_neg c_148, if_pos c_168, ← e_18, ← e_21, ← e_49, ← e_94, ← e_100, ← e_152, ← e_188, ← e_194, if_true, if_false, Bool.false_eq_true, ↓reduceIte]) <;> (try simp only [mLisC, mNx, if_pos c_10, if_neg c_60, if_neg c_86, if_pos c_107, if_neg c_116, if_pos c_143, if_neg c_148, if_pos c_168, ← e_18, ← e_21, ← e_49, ← e_94, ← e_100, ← e_152, ← e_188, ← e_194, if_true, if_false, Bool.false_eq_true, ↓reduceIte]) <;> (try simp only [mLisD, if_pos c_10, if_neg c_60, if_neg c_86, if_pos c_107, if_neg c_116, if_pos c_143, if_neg c_148, if_pos c_168, ← e_18, ← e_21, ← e_49, ← e_94, ← e_100, ← e_152, ← e_188, ← e_194, if_true, if_false, Bool.false_eq_true, ↓reduceIte]) <;> (try simp only [mLisE, mNx, if_pos c_10, if_neg c_60, if_neg c_86, if_pos c_107, if_neg c_116, if_pos c_143, if_neg c_148, if_pos c_168, ← e_18, ← e_21, ← e_49, ← e_94, ← e_100, ← e_152, ← e_188, ← e_194, if_true, if_false, Bool.false_eq_true, ↓reduceIte]) <;> (first | done | with_reducible rfl | rw [e_194])) hP hD hS (lv_sub hl [0, 1, 2] rfl)
                      · skip
                        exact absurd c_107 c_143
                    · skip
                      have c_116 : (mSee s_100 = 61) := c_116
                      refine lv_aload_n hx hb d_Mod_list_119 rfl (lv_at hl 1 rfl) ?_
                      refine lv_dup hx hb d_Mod_list_120 rfl ?_
                      refine va_get (D := D) (ci := 4) (v := .int (gR s_100 3)) (C := "HeadDeskModel") (T := F_Mod) (N := 38) hx hb hts a_Mod hown hX.1 hP 0 rfl rfl 4 (by decide) (hts _ m_2_221) (fun _ h9 => h9) rfl d_Mod_list_121 ?_
                      refine lv_iconst (v := 1) hx hb d_Mod_list_124 (by decide) ?_
                      refine lv_iadd hx hb d_Mod_list_125 ?_
                      refine va_put (D := D) (ci := 4) (v := .int ((gR s_100 3) + 1)) (ty := .int) (C := "HeadDeskModel") (T := F_Mod) (N := 38) hx hb hts a_Mod t_Mod k_Mod n_Mod hown hX.1 hP hD hS 0 rfl rfl 4 (by decide) (hts _ m_2_221) (fun _ h9 => h9) rfl (by decide +kernel) rfl rfl (Nat.le_of_ble_eq_true rfl) d_Mod_list_126 (fun H locs hP hD hS => ?_)
                      have hP : va_P D vwCl (mdW bd ce (wR s_100 3 ((gR s_100 3) + 1))) H := hP
                      have hD : va_D A (mdW bd ce (wR s_100 3 ((gR s_100 3) + 1))) := hD
                      have i_126 : mInv (wR s_100 3 ((gR s_100 3) + 1)) := inv_nx (s := s_100) i_100 (see_lt c_116 (by decide))
                      obtain ⟨s_126, e_126⟩ : ∃ z : MS, z = wR s_100 3 ((gR s_100 3) + 1) := ⟨_, rfl⟩
                      have hP : va_P D vwCl (mdW bd ce s_126) H := by rw [e_126]; exact hP
                      have hD : va_D A (mdW bd ce s_126) := by rw [e_126]; exact hD
                      have i_126 : mInv s_126 := by rw [e_126]; exact i_126
                      have j_126 : wInv s_126 := by rw [e_126]; exact j_100
                      refine lv_aload_n hx hb d_Mod_list_129 rfl (lv_at hl 1 rfl) ?_
                      refine lv_aload_n hx hb d_Mod_list_130 rfl (lv_at hl 1 rfl) ?_
                      refine lv_ldc (v := 99999) hx hb hown (hts _ m_3_166) d_Mod_list_131 ?_
                      refine hx_Vi (wr := []) (As := [.int 99999]) (rest := [.ref (bd 0)]) hI (c_Mod_number s_126 i_126 99999) (cw_V (C := "HeadDeskModel") 1 hts m_3_134 m_3_136 ms_31 m_1_5 m_3_137 (by decide +kernel) ⟨by decide, by decide⟩) hX hA hP hD hS [0, 1, 2, 3, 4, 5, 6] [] rfl rfl (by decide) (by decide) (by decide) (va_recv hX.1 hP (ci := 4) (q0 := 0) rfl rfl) rfl hl.1 rfl (Nat.le_of_ble_eq_true rfl) d_Mod_list_133 ⟨Nat.zero_le _, Nat.zero_le _⟩ (fun H locs hP hD hS => ?_)
                      obtain ⟨s_133, e_133⟩ : ∃ z : MS, z = (mNum s_126 99999).2 := ⟨_, rfl⟩
                      have i_133 : mInv s_133 := by rw [e_133]; exact inv_num i_126
                      have j_133 : wInv s_133 := by rw [e_133]; exact wv_kq kq_num (by decide) (by decide) j_126
                      have hP : va_P D vwCl (mdW bd ce s_133) H := by rw [e_133]; exact hP
                      have hD : va_D A (mdW bd ce s_133) := by rw [e_133]; exact hD
                      refine va_put (D := D) (ci := 4) (v := .int ((mNum s_126 99999).1)) (ty := .int) (C := "HeadDeskModel") (T := F_Mod) (N := 38) hx hb hts a_Mod t_Mod k_Mod n_Mod hown hX.1 hP hD hS 0 rfl rfl 37 (by decide) (hts _ m_3_14) (fun _ h9 => h9) rfl (by decide +kernel) rfl rfl (Nat.le_of_ble_eq_true rfl) d_Mod_list_136 (fun H locs hP hD hS => ?_)
                      have hP : va_P D vwCl (mdW bd ce (wR s_133 31 ((mNum s_126 99999).1))) H := hP
                      have hD : va_D A (mdW bd ce (wR s_133 31 ((mNum s_126 99999).1))) := hD
                      obtain ⟨s_136, e_136⟩ : ∃ z : MS, z = wR s_133 31 ((mNum s_126 99999).1) := ⟨_, rfl⟩
                      have hP : va_P D vwCl (mdW bd ce s_136) H := by rw [e_136]; exact hP
                      have hD : va_D A (mdW bd ce s_136) := by rw [e_136]; exact hD
                      have i_136 : mInv s_136 := by rw [e_136]; exact i_133
                      have j_136 : wInv s_136 := by rw [e_136]; exact j_133
                      refine lv_aload_n hx hb d_Mod_list_139 rfl (lv_at hl 1 rfl) ?_
                      refine va_get (D := D) (ci := 4) (v := .int (gR s_136 4)) (C := "HeadDeskModel") (T := F_Mod) (N := 38) hx hb hts a_Mod hown hX.1 hP 0 rfl rfl 5 (by decide) (hts _ m_2_222) (fun _ h9 => h9) rfl d_Mod_list_140 ?_
                      refine lv_if_eq (tgt := 147) hx hb d_Mod_list_143 (by decide) (fun c_143 => ?_) (fun c_143 => ?_)
                      · skip
                        have c_143 : (gR s_136 4 = 0) := c_143
                        refine lv_iload_n hx hb d_Mod_list_147 rfl (lv_at hl 2 rfl) ?_
                        refine lv_if_eq (tgt := 158) hx hb d_Mod_list_148 (by decide) (fun c_148 => ?_) (fun c_148 => ?_)
                        · skip
                          have c_148 : (x = 0) := c_148
                          refine lv_aload_n hx hb d_Mod_list_158 rfl (lv_at hl 1 rfl) ?_
                          refine hx_Vv (wr := []) (As := []) (rest := []) hI (c_Mod_thingWord s_136 i_136 j_136) (cw_V (C := "HeadDeskModel") 0 hts m_3_190 m_3_192 ms_41 m_1_5 m_3_193 (by decide +kernel) ⟨by decide, by decide⟩) hX hA hP hD hS [0, 1, 2, 3, 4, 5, 6] [] rfl rfl (by decide) (by decide) (by decide) (va_recv hX.1 hP (ci := 4) (q0 := 0) rfl rfl) rfl hl.1 rfl (Nat.le_of_ble_eq_true rfl) d_Mod_list_159 ⟨Nat.zero_le _, Nat.zero_le _⟩ (fun H locs hP hD hS => ?_)
                          obtain ⟨s_159, e_159⟩ : ∃ z : MS, z = mThg s_136 := ⟨_, rfl⟩
                          have i_159 : mInv s_159 := by rw [e_159]; exact inv_kq kq_thg (by decide) (by decide) (by decide) i_136
                          have j_159 : wInv s_159 := by rw [e_159]; exact wv_kq kq_thg (by decide) (by decide) j_136
                          have hP : va_P D vwCl (mdW bd ce s_159) H := by rw [e_159]; exact hP
                          have hD : va_D A (mdW bd ce s_159) := by rw [e_159]; exact hD
                          refine lv_aload_n hx hb d_Mod_list_162 rfl (lv_at hl 1 rfl) ?_
                          refine hx_Vi (wr := []) (As := []) (rest := []) hI (c_Mod_see s_159 i_159 ) (cw_V (C := "HeadDeskModel") 0 hts m_3_109 m_3_111 ms_26 m_1_5 m_3_112 (by decide +kernel) ⟨by decide, by decide⟩) hX hA hP hD hS [0, 1, 2, 3, 4, 5, 6] [] rfl rfl (by decide) (by decide) (by decide) (va_recv hX.1 hP (ci := 4) (q0 := 0) rfl rfl) rfl hl.1 rfl (Nat.le_of_ble_eq_true rfl) d_Mod_list_163 ⟨Nat.zero_le _, Nat.zero_le _⟩ (fun H locs hP hD hS => ?_)
                          have hP : va_P D vwCl (mdW bd ce s_159) H := hP
                          have hD : va_D A (mdW bd ce s_159) := hD
                          refine lv_bipush (v := 44) hx hb d_Mod_list_166 (by decide) ?_
                          refine lv_icmp_ne (tgt := 175) hx hb d_Mod_list_168 (by decide) (fun c_168 => ?_) (fun c_168 => ?_)
                          · skip
                            have c_168 : ¬ (mSee s_159 = 44) := c_168
                            refine lv_iconst (v := 0) hx hb d_Mod_list_175 (by decide) ?_
                            refine lv_istore_n (lv' := [(2, .int 0), (0, .ref (bd 0)), (1, .int x)]) hx hb d_Mod_list_176 rfl hl (by decide) rfl (fun ls hl => ?_)
                            refine lv_iload_n hx hb d_Mod_list_177 rfl (lv_at hl 0 rfl) ?_
                            refine lv_if_eq (tgt := 2) hx hb d_Mod_list_178 (by decide) (fun c_178 => ?_) (fun c_178 => ?_)
                            · skip
                              refine lv_iload_n hx hb d_Mod_list_2 rfl (lv_at hl 0 rfl) ?_
                              refine lv_if_eq (tgt := 201) hx hb d_Mod_list_3 (by decide) (fun c_3 => ?_) (fun c_3 => ?_)
                              · skip
                                exact hret H locs s_159 _ _ hP hD hS (by rw [hF]; (try simp only [mLisL, mLisW, mLisA, if_pos c_10, if_neg c_60, if_neg c_86, if_pos c_107, if_pos c_116, if_pos c_143, if_pos c_148, if_neg c_168, ← e_18, ← e_21, ← e_49, ← e_94, ← e_100, ← e_126, ← e_133, ← e_136, ← e_159, if_true, if_false, Bool.false_eq_true, ↓reduceIte]) <;> (try simp only [mLisB, if_pos c_10, if_neg c_60, if_neg c_86, if_pos c_107, if_pos c_116, if_pos c_143, if_pos c_148, if_neg c_168, ← e_18, ← e_21, ← e_49, ← e_94, ← e_100, ← e_126, ← e_133, ← e_136, ← e_159, if_true, if_false, Bool.false_eq_true, ↓reduceIte]) <;> (try simp only [mLisC, mNx, if_pos c_10, if_neg c_60, if_neg c_86, if_pos c_107, if_pos c_116, if_pos c_143, if_pos c_148, if_neg c_168, ← e_18, ← e_21, ← e_49, ← e_94, ← e_100, ← e_126, ← e_133, ← e_136, ← e_159, if_true, if_false, Bool.false_eq_true, ↓reduceIte]) <;> (try simp only [mLisD, if_pos c_10, if_neg c_60, if_neg c_86, if_pos c_107, if_pos c_116, if_pos c_143, if_pos c_148, if_neg c_168, ← e_18, ← e_21, ← e_49, ← e_94, ← e_100, ← e_126, ← e_133, ← e_136, ← e_159, if_true, if_false, Bool.false_eq_true, ↓reduceIte]) <;> (try simp only [mLisE, mNx, if_pos c_10, if_neg c_60, if_neg c_86, if_pos c_107, if_pos c_116, if_pos c_143, if_pos c_148, if_neg c_168, ← e_18, ← e_21, ← e_49, ← e_94, ← e_100, ← e_126, ← e_133, ← e_136, ← e_159, if_true, if_false, Bool.false_eq_true, ↓reduceIte]) <;> (first | done | with_reducible rfl | rw [e_159])) d_Mod_list_201
                              · skip
                                exact absurd (by decide) c_3
                            · skip
                              exact absurd (by decide) c_178
                          · skip
                            have c_168 : (mSee s_159 = 44) := c_168
                            refine lv_iconst (v := 1) hx hb d_Mod_list_171 (by decide) ?_
                            refine lv_goto (tgt := 176) hx hb d_Mod_list_172 (by decide) ?_
                            refine lv_istore_n (lv' := [(2, .int 1), (0, .ref (bd 0)), (1, .int x)]) hx hb d_Mod_list_176 rfl hl (by decide) rfl (fun ls hl => ?_)
                            refine lv_iload_n hx hb d_Mod_list_177 rfl (lv_at hl 0 rfl) ?_
                            refine lv_if_eq (tgt := 2) hx hb d_Mod_list_178 (by decide) (fun c_178 => ?_) (fun c_178 => ?_)
                            · skip
                              exact absurd c_178 (by decide)
                            · skip
                              refine lv_aload_n hx hb d_Mod_list_181 rfl (lv_at hl 1 rfl) ?_
                              refine lv_dup hx hb d_Mod_list_182 rfl ?_
                              refine va_get (D := D) (ci := 4) (v := .int (gR s_159 3)) (C := "HeadDeskModel") (T := F_Mod) (N := 38) hx hb hts a_Mod hown hX.1 hP 0 rfl rfl 4 (by decide) (hts _ m_2_221) (fun _ h9 => h9) rfl d_Mod_list_183 ?_
                              refine lv_iconst (v := 1) hx hb d_Mod_list_186 (by decide) ?_
                              refine lv_iadd hx hb d_Mod_list_187 ?_
                              refine va_put (D := D) (ci := 4) (v := .int ((gR s_159 3) + 1)) (ty := .int) (C := "HeadDeskModel") (T := F_Mod) (N := 38) hx hb hts a_Mod t_Mod k_Mod n_Mod hown hX.1 hP hD hS 0 rfl rfl 4 (by decide) (hts _ m_2_221) (fun _ h9 => h9) rfl (by decide +kernel) rfl rfl (Nat.le_of_ble_eq_true rfl) d_Mod_list_188 (fun H locs hP hD hS => ?_)
                              have hP : va_P D vwCl (mdW bd ce (wR s_159 3 ((gR s_159 3) + 1))) H := hP
                              have hD : va_D A (mdW bd ce (wR s_159 3 ((gR s_159 3) + 1))) := hD
                              have i_188 : mInv (wR s_159 3 ((gR s_159 3) + 1)) := inv_nx (s := s_159) i_159 (see_lt c_168 (by decide))
                              obtain ⟨s_188, e_188⟩ : ∃ z : MS, z = wR s_159 3 ((gR s_159 3) + 1) := ⟨_, rfl⟩
                              have hP : va_P D vwCl (mdW bd ce s_188) H := by rw [e_188]; exact hP
                              have hD : va_D A (mdW bd ce s_188) := by rw [e_188]; exact hD
                              have i_188 : mInv s_188 := by rw [e_188]; exact i_188
                              have j_188 : wInv s_188 := by rw [e_188]; exact j_159
                              refine lv_aload_n hx hb d_Mod_list_191 rfl (lv_at hl 1 rfl) ?_
                              refine lv_bipush (v := 32) hx hb d_Mod_list_192 (by decide) ?_
                              refine hx_Vz (wr := []) (As := [.int 32]) (rest := []) hI (c_Mod_expect s_188 i_188 32 (by decide)) (cw_V (C := "HeadDeskModel") 1 hts m_3_120 m_3_122 ms_28 m_1_5 m_3_123 (by decide +kernel) ⟨by decide, by decide⟩) hX hA hP hD hS [0, 1, 2, 3, 4, 5, 6] [] rfl rfl (by decide) (by decide) (by decide) (va_recv hX.1 hP (ci := 4) (q0 := 0) rfl rfl) rfl hl.1 rfl (Nat.le_of_ble_eq_true rfl) d_Mod_list_194 ⟨Nat.zero_le _, Nat.zero_le _⟩ (fun H locs hP hD hS => ?_)
                              obtain ⟨s_194, e_194⟩ : ∃ z : MS, z = (mExp s_188 32).2 := ⟨_, rfl⟩
                              have i_194 : mInv s_194 := by rw [e_194]; exact inv_exp i_188 (by decide)
                              have j_194 : wInv s_194 := by rw [e_194]; exact wv_kq kq_exp (by decide) (by decide) j_188
                              have hP : va_P D vwCl (mdW bd ce s_194) H := by rw [e_194]; exact hP
                              have hD : va_D A (mdW bd ce s_194) := by rw [e_194]; exact hD
                              refine lv_pop hx hb d_Mod_list_197 rfl ?_
                              refine lv_goto (tgt := 2) hx hb d_Mod_list_198 (by decide) ?_
                              have a_1 : Ad s1 s_159 := by
                                rw [e_159]
                                refine Ad.tr ?_ (ad_kq kq_thg (by decide) (by decide))
                                rw [e_136]
                                refine Ad.tr ?_ (Ad.reg (by decide) (by decide))
                                rw [e_133]
                                refine Ad.tr ?_ (ad_num i_126)
                                rw [e_126]
                                refine Ad.tr ?_ (ad_nx i_100 (see_lt c_116 (by decide)))
                                rw [e_100]
                                refine Ad.tr ?_ (Ad.reg (by decide) (by decide))
                                rw [e_94]
                                refine Ad.tr ?_ ad_wr
                                rw [e_49]
                                refine Ad.tr ?_ (Ad.reg (by decide) (by decide))
                                rw [e_21]
                                refine Ad.tr ?_ (ad_letL 300 _ i_18)
                                rw [e_18]
                                exact Ad.reg (by decide) (by decide)
                              exact ih s_194 H locs ls (by rw [e_194, e_188]; exact li_2 i_159 (see_lt c_168 (by decide)) a_1 (ad_exp (by have q := i_188; rw [e_188] at q; exact q) (by decide)) hj) i_194 (by rw [hF]; (try simp only [mLisL, mLisW, mLisA, if_pos c_10, if_neg c_60, if_neg c_86, if_pos c_107, if_pos c_116, if_pos c_143, if_pos c_148, if_pos c_168, ← e_18, ← e_21, ← e_49, ← e_94, ← e_100, ← e_126, ← e_133, ← e_136, ← e_159, ← e_188, ← e_194, if_true, if_false, Bool.false_eq_true, ↓reduceIte]) <;> (try simp only [mLisB, if_pos c_10, if_neg c_60, if_neg c_86, if_pos c_107, if_pos c_116, if_pos c_143, if_pos c_148, if_pos c_168, ← e_18, ← e_21, ← e_49, ← e_94, ← e_100, ← e_126, ← e_133, ← e_136, ← e_159, ← e_188, ← e_194, if_true, if_false, Bool.false_eq_true, ↓reduceIte]) <;> (try simp only [mLisC, mNx, if_pos c_10, if_neg c_60, if_neg c_86, if_pos c_107, if_pos c_116, if_pos c_143, if_pos c_148, if_pos c_168, ← e_18, ← e_21, ← e_49, ← e_94, ← e_100, ← e_126, ← e_133, ← e_136, ← e_159, ← e_188, ← e_194, if_true, if_false, Bool.false_eq_true, ↓reduceIte]) <;> (try simp only [mLisD, if_pos c_10, if_neg c_60, if_neg c_86, if_pos c_107, if_pos c_116, if_pos c_143, if_pos c_148, if_pos c_168, ← e_18, ← e_21, ← e_49, ← e_94, ← e_100, ← e_126, ← e_133, ← e_136, ← e_159, ← e_188, ← e_194, if_true, if_false, Bool.false_eq_true, ↓reduceIte]) <;> (try simp only [mLisE, mNx, if_pos c_10, if_neg c_60, if_neg c_86, if_pos c_107, if_pos c_116, if_pos c_143, if_pos c_148, if_pos c_168, ← e_18, ← e_21, ← e_49, ← e_94, ← e_100, ← e_126, ← e_133, ← e_136, ← e_159, ← e_188, ← e_194, if_true, if_false, Bool.false_eq_true, ↓reduceIte]) <;> (first | done | with_reducible rfl | rw [e_194])) hP hD hS (lv_sub hl [0, 1, 2] rfl)
                        · skip
                          have c_148 : ¬ (x = 0) := c_148
                          refine lv_aload_n hx hb d_Mod_list_151 rfl (lv_at hl 1 rfl) ?_
                          refine hx_Vv (wr := []) (As := []) (rest := []) hI (c_Mod_requestWord s_136 i_136 j_136) (cw_V (C := "HeadDeskModel") 0 hts m_3_177 m_3_179 ms_39 m_1_5 m_3_180 (by decide +kernel) ⟨by decide, by decide⟩) hX hA hP hD hS [0, 1, 2, 3, 4, 5, 6] [] rfl rfl (by decide) (by decide) (by decide) (va_recv hX.1 hP (ci := 4) (q0 := 0) rfl rfl) rfl hl.1 rfl (Nat.le_of_ble_eq_true rfl) d_Mod_list_152 ⟨Nat.zero_le _, Nat.zero_le _⟩ (fun H locs hP hD hS => ?_)
                          obtain ⟨s_152, e_152⟩ : ∃ z : MS, z = mReq s_136 := ⟨_, rfl⟩
                          have i_152 : mInv s_152 := by rw [e_152]; exact inv_kq kq_req (by decide) (by decide) (by decide) i_136
                          have j_152 : wInv s_152 := by rw [e_152]; exact wv_kq kq_req (by decide) (by decide) j_136
                          have hP : va_P D vwCl (mdW bd ce s_152) H := by rw [e_152]; exact hP
                          have hD : va_D A (mdW bd ce s_152) := by rw [e_152]; exact hD
                          refine lv_goto (tgt := 162) hx hb d_Mod_list_155 (by decide) ?_
                          refine lv_aload_n hx hb d_Mod_list_162 rfl (lv_at hl 1 rfl) ?_
                          refine hx_Vi (wr := []) (As := []) (rest := []) hI (c_Mod_see s_152 i_152 ) (cw_V (C := "HeadDeskModel") 0 hts m_3_109 m_3_111 ms_26 m_1_5 m_3_112 (by decide +kernel) ⟨by decide, by decide⟩) hX hA hP hD hS [0, 1, 2, 3, 4, 5, 6] [] rfl rfl (by decide) (by decide) (by decide) (va_recv hX.1 hP (ci := 4) (q0 := 0) rfl rfl) rfl hl.1 rfl (Nat.le_of_ble_eq_true rfl) d_Mod_list_163 ⟨Nat.zero_le _, Nat.zero_le _⟩ (fun H locs hP hD hS => ?_)
                          have hP : va_P D vwCl (mdW bd ce s_152) H := hP
                          have hD : va_D A (mdW bd ce s_152) := hD
                          refine lv_bipush (v := 44) hx hb d_Mod_list_166 (by decide) ?_
                          refine lv_icmp_ne (tgt := 175) hx hb d_Mod_list_168 (by decide) (fun c_168 => ?_) (fun c_168 => ?_)
                          · skip
                            have c_168 : ¬ (mSee s_152 = 44) := c_168
                            refine lv_iconst (v := 0) hx hb d_Mod_list_175 (by decide) ?_
                            refine lv_istore_n (lv' := [(2, .int 0), (0, .ref (bd 0)), (1, .int x)]) hx hb d_Mod_list_176 rfl hl (by decide) rfl (fun ls hl => ?_)
                            refine lv_iload_n hx hb d_Mod_list_177 rfl (lv_at hl 0 rfl) ?_
                            refine lv_if_eq (tgt := 2) hx hb d_Mod_list_178 (by decide) (fun c_178 => ?_) (fun c_178 => ?_)
                            · skip
                              refine lv_iload_n hx hb d_Mod_list_2 rfl (lv_at hl 0 rfl) ?_
                              refine lv_if_eq (tgt := 201) hx hb d_Mod_list_3 (by decide) (fun c_3 => ?_) (fun c_3 => ?_)
                              · skip
                                exact hret H locs s_152 _ _ hP hD hS (by rw [hF]; (try simp only [mLisL, mLisW, mLisA, if_pos c_10, if_neg c_60, if_neg c_86, if_pos c_107, if_pos c_116, if_pos c_143, if_neg c_148, if_neg c_168, ← e_18, ← e_21, ← e_49, ← e_94, ← e_100, ← e_126, ← e_133, ← e_136, ← e_152, if_true, if_false, Bool.false_eq_true, ↓reduceIte]) <;> (try simp only [mLisB, if_pos c_10, if_neg c_60, if_neg c_86, if_pos c_107, if_pos c_116, if_pos c_143, if_neg c_148, if_neg c_168, ← e_18, ← e_21, ← e_49, ← e_94, ← e_100, ← e_126, ← e_133, ← e_136, ← e_152, if_true, if_false, Bool.false_eq_true, ↓reduceIte]) <;> (try simp only [mLisC, mNx, if_pos c_10, if_neg c_60, if_neg c_86, if_pos c_107, if_pos c_116, if_pos c_143, if_neg c_148, if_neg c_168, ← e_18, ← e_21, ← e_49, ← e_94, ← e_100, ← e_126, ← e_133, ← e_136, ← e_152, if_true, if_false, Bool.false_eq_true, ↓reduceIte]) <;> (try simp only [mLisD, if_pos c_10, if_neg c_60, if_neg c_86, if_pos c_107, if_pos c_116, if_pos c_143, if_neg c_148, if_neg c_168, ← e_18, ← e_21, ← e_49, ← e_94, ← e_100, ← e_126, ← e_133, ← e_136, ← e_152, if_true, if_false, Bool.false_eq_true, ↓reduceIte]) <;> (try simp only [mLisE, mNx, if_pos c_10, if_neg c_60, if_neg c_86, if_pos c_107, if_pos c_116, if_pos c_143, if_neg c_148, if_neg c_168, ← e_18, ← e_21, ← e_49, ← e_94, ← e_100, ← e_126, ← e_133, ← e_136, ← e_152, if_true, if_false, Bool.false_eq_true, ↓reduceIte]) <;> (first | done | with_reducible rfl | rw [e_152])) d_Mod_list_201
                              · skip
                                exact absurd (by decide) c_3
                            · skip
                              exact absurd (by decide) c_178
                          · skip
                            have c_168 : (mSee s_152 = 44) := c_168
                            refine lv_iconst (v := 1) hx hb d_Mod_list_171 (by decide) ?_
                            refine lv_goto (tgt := 176) hx hb d_Mod_list_172 (by decide) ?_
                            refine lv_istore_n (lv' := [(2, .int 1), (0, .ref (bd 0)), (1, .int x)]) hx hb d_Mod_list_176 rfl hl (by decide) rfl (fun ls hl => ?_)
                            refine lv_iload_n hx hb d_Mod_list_177 rfl (lv_at hl 0 rfl) ?_
                            refine lv_if_eq (tgt := 2) hx hb d_Mod_list_178 (by decide) (fun c_178 => ?_) (fun c_178 => ?_)
                            · skip
                              exact absurd c_178 (by decide)
                            · skip
                              refine lv_aload_n hx hb d_Mod_list_181 rfl (lv_at hl 1 rfl) ?_
                              refine lv_dup hx hb d_Mod_list_182 rfl ?_
                              refine va_get (D := D) (ci := 4) (v := .int (gR s_152 3)) (C := "HeadDeskModel") (T := F_Mod) (N := 38) hx hb hts a_Mod hown hX.1 hP 0 rfl rfl 4 (by decide) (hts _ m_2_221) (fun _ h9 => h9) rfl d_Mod_list_183 ?_
                              refine lv_iconst (v := 1) hx hb d_Mod_list_186 (by decide) ?_
                              refine lv_iadd hx hb d_Mod_list_187 ?_
                              refine va_put (D := D) (ci := 4) (v := .int ((gR s_152 3) + 1)) (ty := .int) (C := "HeadDeskModel") (T := F_Mod) (N := 38) hx hb hts a_Mod t_Mod k_Mod n_Mod hown hX.1 hP hD hS 0 rfl rfl 4 (by decide) (hts _ m_2_221) (fun _ h9 => h9) rfl (by decide +kernel) rfl rfl (Nat.le_of_ble_eq_true rfl) d_Mod_list_188 (fun H locs hP hD hS => ?_)
                              have hP : va_P D vwCl (mdW bd ce (wR s_152 3 ((gR s_152 3) + 1))) H := hP
                              have hD : va_D A (mdW bd ce (wR s_152 3 ((gR s_152 3) + 1))) := hD
                              have i_188 : mInv (wR s_152 3 ((gR s_152 3) + 1)) := inv_nx (s := s_152) i_152 (see_lt c_168 (by decide))
                              obtain ⟨s_188, e_188⟩ : ∃ z : MS, z = wR s_152 3 ((gR s_152 3) + 1) := ⟨_, rfl⟩
                              have hP : va_P D vwCl (mdW bd ce s_188) H := by rw [e_188]; exact hP
                              have hD : va_D A (mdW bd ce s_188) := by rw [e_188]; exact hD
                              have i_188 : mInv s_188 := by rw [e_188]; exact i_188
                              have j_188 : wInv s_188 := by rw [e_188]; exact j_152
                              refine lv_aload_n hx hb d_Mod_list_191 rfl (lv_at hl 1 rfl) ?_
                              refine lv_bipush (v := 32) hx hb d_Mod_list_192 (by decide) ?_
                              refine hx_Vz (wr := []) (As := [.int 32]) (rest := []) hI (c_Mod_expect s_188 i_188 32 (by decide)) (cw_V (C := "HeadDeskModel") 1 hts m_3_120 m_3_122 ms_28 m_1_5 m_3_123 (by decide +kernel) ⟨by decide, by decide⟩) hX hA hP hD hS [0, 1, 2, 3, 4, 5, 6] [] rfl rfl (by decide) (by decide) (by decide) (va_recv hX.1 hP (ci := 4) (q0 := 0) rfl rfl) rfl hl.1 rfl (Nat.le_of_ble_eq_true rfl) d_Mod_list_194 ⟨Nat.zero_le _, Nat.zero_le _⟩ (fun H locs hP hD hS => ?_)
                              obtain ⟨s_194, e_194⟩ : ∃ z : MS, z = (mExp s_188 32).2 := ⟨_, rfl⟩
                              have i_194 : mInv s_194 := by rw [e_194]; exact inv_exp i_188 (by decide)
                              have j_194 : wInv s_194 := by rw [e_194]; exact wv_kq kq_exp (by decide) (by decide) j_188
                              have hP : va_P D vwCl (mdW bd ce s_194) H := by rw [e_194]; exact hP
                              have hD : va_D A (mdW bd ce s_194) := by rw [e_194]; exact hD
                              refine lv_pop hx hb d_Mod_list_197 rfl ?_
                              refine lv_goto (tgt := 2) hx hb d_Mod_list_198 (by decide) ?_
                              have a_1 : Ad s1 s_152 := by
                                rw [e_152]
                                refine Ad.tr ?_ (ad_kq kq_req (by decide) (by decide))
                                rw [e_136]
                                refine Ad.tr ?_ (Ad.reg (by decide) (by decide))
                                rw [e_133]
                                refine Ad.tr ?_ (ad_num i_126)
                                rw [e_126]
                                refine Ad.tr ?_ (ad_nx i_100 (see_lt c_116 (by decide)))
                                rw [e_100]
                                refine Ad.tr ?_ (Ad.reg (by decide) (by decide))
                                rw [e_94]
                                refine Ad.tr ?_ ad_wr
                                rw [e_49]
                                refine Ad.tr ?_ (Ad.reg (by decide) (by decide))
                                rw [e_21]
                                refine Ad.tr ?_ (ad_letL 300 _ i_18)
                                rw [e_18]
                                exact Ad.reg (by decide) (by decide)
                              exact ih s_194 H locs ls (by rw [e_194, e_188]; exact li_2 i_152 (see_lt c_168 (by decide)) a_1 (ad_exp (by have q := i_188; rw [e_188] at q; exact q) (by decide)) hj) i_194 (by rw [hF]; (try simp only [mLisL, mLisW, mLisA, if_pos c_10, if_neg c_60, if_neg c_86, if_pos c_107, if_pos c_116, if_pos c_143, if_neg c_148, if_pos c_168, ← e_18, ← e_21, ← e_49, ← e_94, ← e_100, ← e_126, ← e_133, ← e_136, ← e_152, ← e_188, ← e_194, if_true, if_false, Bool.false_eq_true, ↓reduceIte]) <;> (try simp only [mLisB, if_pos c_10, if_neg c_60, if_neg c_86, if_pos c_107, if_pos c_116, if_pos c_143, if_neg c_148, if_pos c_168, ← e_18, ← e_21, ← e_49, ← e_94, ← e_100, ← e_126, ← e_133, ← e_136, ← e_152, ← e_188, ← e_194, if_true, if_false, Bool.false_eq_true, ↓reduceIte]) <;> (try simp only [mLisC, mNx, if_pos c_10, if_neg c_60, if_neg c_86, if_pos c_107, if_pos c_116, if_pos c_143, if_neg c_148, if_pos c_168, ← e_18, ← e_21, ← e_49, ← e_94, ← e_100, ← e_126, ← e_133, ← e_136, ← e_152, ← e_188, ← e_194, if_true, if_false, Bool.false_eq_true, ↓reduceIte]) <;> (try simp only [mLisD, if_pos c_10, if_neg c_60, if_neg c_86, if_pos c_107, if_pos c_116, if_pos c_143, if_neg c_148, if_pos c_168, ← e_18, ← e_21, ← e_49, ← e_94, ← e_100, ← e_126, ← e_133, ← e_136, ← e_152, ← e_188, ← e_194, if_true, if_false, Bool.false_eq_true, ↓reduceIte]) <;> (try simp only [mLisE, mNx, if_pos c_10, if_neg c_60, if_neg c_86, if_pos c_107, if_pos c_116, if_pos c_143, if_neg c_148, if_pos c_168, ← e_18, ← e_21, ← e_49, ← e_94, ← e_100, ← e_126, ← e_133, ← e_136, ← e_152, ← e_188, ← e_194, if_true, if_false, Bool.false_eq_true, ↓reduceIte]) <;> (first | done | with_reducible rfl | rw [e_194])) hP hD hS (lv_sub hl [0, 1, 2] rfl)
                      · skip
                        have c_143 : ¬ (gR s_136 4 = 0) := c_143
                        exact hret H locs s_136 _ _ hP hD hS (by rw [hF]; (try simp only [mLisL, mLisW, mLisA, if_pos c_10, if_neg c_60, if_neg c_86, if_pos c_107, if_pos c_116, if_neg c_143, ← e_18, ← e_21, ← e_49, ← e_94, ← e_100, ← e_126, ← e_133, ← e_136, if_true, if_false, Bool.false_eq_true, ↓reduceIte]) <;> (try simp only [mLisB, if_pos c_10, if_neg c_60, if_neg c_86, if_pos c_107, if_pos c_116, if_neg c_143, ← e_18, ← e_21, ← e_49, ← e_94, ← e_100, ← e_126, ← e_133, ← e_136, if_true, if_false, Bool.false_eq_true, ↓reduceIte]) <;> (try simp only [mLisC, mNx, if_pos c_10, if_neg c_60, if_neg c_86, if_pos c_107, if_pos c_116, if_neg c_143, ← e_18, ← e_21, ← e_49, ← e_94, ← e_100, ← e_126, ← e_133, ← e_136, if_true, if_false, Bool.false_eq_true, ↓reduceIte]) <;> (try simp only [mLisD, if_pos c_10, if_neg c_60, if_neg c_86, if_pos c_107, if_pos c_116, if_neg c_143, ← e_18, ← e_21, ← e_49, ← e_94, ← e_100, ← e_126, ← e_133, ← e_136, if_true, if_false, Bool.false_eq_true, ↓reduceIte]) <;> (try simp only [mLisE, mNx, if_pos c_10, if_neg c_60, if_neg c_86, if_pos c_107, if_pos c_116, if_neg c_143, ← e_18, ← e_21, ← e_49, ← e_94, ← e_100, ← e_126, ← e_133, ← e_136, if_true, if_false, Bool.false_eq_true, ↓reduceIte]) <;> (first | done | with_reducible rfl | rw [e_136])) d_Mod_list_146
              · skip
                have c_60 : (gR s_49 3 = gR s_49 29) := c_60
                refine lv_aload_n hx hb d_Mod_list_63 rfl (lv_at hl 1 rfl) ?_
                refine lv_aload_n hx hb d_Mod_list_64 rfl (lv_at hl 1 rfl) ?_
                refine va_get (D := D) (ci := 4) (v := .int (gR s_49 3)) (C := "HeadDeskModel") (T := F_Mod) (N := 38) hx hb hts a_Mod hown hX.1 hP 0 rfl rfl 4 (by decide) (hts _ m_2_221) (fun _ h9 => h9) rfl d_Mod_list_65 ?_
                refine hx_Vz (wr := []) (As := [.int (gR s_49 3)]) (rest := []) hI (c_Mod_wrong s_49 i_49 (gR s_49 3)) (cw_V (C := "HeadDeskModel") 1 hts m_3_124 m_3_126 ms_29 m_1_5 m_3_127 (by decide +kernel) ⟨by decide, by decide⟩) hX hA hP hD hS [0, 1, 2, 3, 4, 5, 6] [] rfl rfl (by decide) (by decide) (by decide) (va_recv hX.1 hP (ci := 4) (q0 := 0) rfl rfl) rfl hl.1 rfl (Nat.le_of_ble_eq_true rfl) d_Mod_list_68 ⟨Nat.zero_le _, Nat.zero_le _⟩ (fun H locs hP hD hS => ?_)
                obtain ⟨s_68, e_68⟩ : ∃ z : MS, z = mWr s_49 (gR s_49 3) := ⟨_, rfl⟩
                have i_68 : mInv s_68 := by rw [e_68]; exact inv_wr i_49
                have j_68 : wInv s_68 := by rw [e_68]; exact wv_kq kq_wr (by decide) (by decide) j_49
                have hP : va_P D vwCl (mdW bd ce s_68) H := by rw [e_68]; exact hP
                have hD : va_D A (mdW bd ce s_68) := by rw [e_68]; exact hD
                refine lv_pop hx hb d_Mod_list_71 rfl ?_
                refine lv_goto (tgt := 98) hx hb d_Mod_list_72 (by decide) ?_
                refine lv_aload_n hx hb d_Mod_list_98 rfl (lv_at hl 1 rfl) ?_
                refine lv_iconst (v := (-1)) hx hb d_Mod_list_99 (by decide) ?_
                refine va_put (D := D) (ci := 4) (v := .int (-1)) (ty := .int) (C := "HeadDeskModel") (T := F_Mod) (N := 38) hx hb hts a_Mod t_Mod k_Mod n_Mod hown hX.1 hP hD hS 0 rfl rfl 37 (by decide) (hts _ m_3_14) (fun _ h9 => h9) rfl (by decide +kernel) rfl rfl (Nat.le_of_ble_eq_true rfl) d_Mod_list_100 (fun H locs hP hD hS => ?_)
                have hP : va_P D vwCl (mdW bd ce (wR s_68 31 (-1))) H := hP
                have hD : va_D A (mdW bd ce (wR s_68 31 (-1))) := hD
                obtain ⟨s_100, e_100⟩ : ∃ z : MS, z = wR s_68 31 (-1) := ⟨_, rfl⟩
                have hP : va_P D vwCl (mdW bd ce s_100) H := by rw [e_100]; exact hP
                have hD : va_D A (mdW bd ce s_100) := by rw [e_100]; exact hD
                have i_100 : mInv s_100 := by rw [e_100]; exact i_68
                have j_100 : wInv s_100 := by rw [e_100]; exact j_68
                refine lv_aload_n hx hb d_Mod_list_103 rfl (lv_at hl 1 rfl) ?_
                refine va_get (D := D) (ci := 4) (v := .int (gR s_100 4)) (C := "HeadDeskModel") (T := F_Mod) (N := 38) hx hb hts a_Mod hown hX.1 hP 0 rfl rfl 5 (by decide) (hts _ m_2_222) (fun _ h9 => h9) rfl d_Mod_list_104 ?_
                refine lv_if_ne (tgt := 139) hx hb d_Mod_list_107 (by decide) (fun c_107 => ?_) (fun c_107 => ?_)
                · skip
                  have c_107 : ¬ (gR s_100 4 = 0) := c_107
                  refine lv_aload_n hx hb d_Mod_list_139 rfl (lv_at hl 1 rfl) ?_
                  refine va_get (D := D) (ci := 4) (v := .int (gR s_100 4)) (C := "HeadDeskModel") (T := F_Mod) (N := 38) hx hb hts a_Mod hown hX.1 hP 0 rfl rfl 5 (by decide) (hts _ m_2_222) (fun _ h9 => h9) rfl d_Mod_list_140 ?_
                  refine lv_if_eq (tgt := 147) hx hb d_Mod_list_143 (by decide) (fun c_143 => ?_) (fun c_143 => ?_)
                  · skip
                    exact absurd c_143 c_107
                  · skip
                    have c_143 : ¬ (gR s_100 4 = 0) := c_143
                    exact hret H locs s_100 _ _ hP hD hS (by rw [hF]; (try simp only [mLisL, mLisW, mLisA, if_pos c_10, if_pos c_60, if_neg c_107, if_neg c_143, ← e_18, ← e_21, ← e_49, ← e_68, ← e_100, if_true, if_false, Bool.false_eq_true, ↓reduceIte]) <;> (try simp only [mLisB, if_pos c_10, if_pos c_60, if_neg c_107, if_neg c_143, ← e_18, ← e_21, ← e_49, ← e_68, ← e_100, if_true, if_false, Bool.false_eq_true, ↓reduceIte]) <;> (try simp only [mLisC, mNx, if_pos c_10, if_pos c_60, if_neg c_107, if_neg c_143, ← e_18, ← e_21, ← e_49, ← e_68, ← e_100, if_true, if_false, Bool.false_eq_true, ↓reduceIte]) <;> (try simp only [mLisD, if_pos c_10, if_pos c_60, if_neg c_107, if_neg c_143, ← e_18, ← e_21, ← e_49, ← e_68, ← e_100, if_true, if_false, Bool.false_eq_true, ↓reduceIte]) <;> (try simp only [mLisE, mNx, if_pos c_10, if_pos c_60, if_neg c_107, if_neg c_143, ← e_18, ← e_21, ← e_49, ← e_68, ← e_100, if_true, if_false, Bool.false_eq_true, ↓reduceIte]) <;> (first | done | with_reducible rfl | rw [e_100])) d_Mod_list_146
                · skip
                  have c_107 : (gR s_100 4 = 0) := c_107
                  refine lv_aload_n hx hb d_Mod_list_110 rfl (lv_at hl 1 rfl) ?_
                  refine hx_Vi (wr := []) (As := []) (rest := []) hI (c_Mod_see s_100 i_100 ) (cw_V (C := "HeadDeskModel") 0 hts m_3_109 m_3_111 ms_26 m_1_5 m_3_112 (by decide +kernel) ⟨by decide, by decide⟩) hX hA hP hD hS [0, 1, 2, 3, 4, 5, 6] [] rfl rfl (by decide) (by decide) (by decide) (va_recv hX.1 hP (ci := 4) (q0 := 0) rfl rfl) rfl hl.1 rfl (Nat.le_of_ble_eq_true rfl) d_Mod_list_111 ⟨Nat.zero_le _, Nat.zero_le _⟩ (fun H locs hP hD hS => ?_)
                  have hP : va_P D vwCl (mdW bd ce s_100) H := hP
                  have hD : va_D A (mdW bd ce s_100) := hD
                  refine lv_bipush (v := 61) hx hb d_Mod_list_114 (by decide) ?_
                  refine lv_icmp_ne (tgt := 139) hx hb d_Mod_list_116 (by decide) (fun c_116 => ?_) (fun c_116 => ?_)
                  · skip
                    have c_116 : ¬ (mSee s_100 = 61) := c_116
                    refine lv_aload_n hx hb d_Mod_list_139 rfl (lv_at hl 1 rfl) ?_
                    refine va_get (D := D) (ci := 4) (v := .int (gR s_100 4)) (C := "HeadDeskModel") (T := F_Mod) (N := 38) hx hb hts a_Mod hown hX.1 hP 0 rfl rfl 5 (by decide) (hts _ m_2_222) (fun _ h9 => h9) rfl d_Mod_list_140 ?_
                    refine lv_if_eq (tgt := 147) hx hb d_Mod_list_143 (by decide) (fun c_143 => ?_) (fun c_143 => ?_)
                    · skip
                      have c_143 : (gR s_100 4 = 0) := c_143
                      refine lv_iload_n hx hb d_Mod_list_147 rfl (lv_at hl 2 rfl) ?_
                      refine lv_if_eq (tgt := 158) hx hb d_Mod_list_148 (by decide) (fun c_148 => ?_) (fun c_148 => ?_)
                      · skip
                        have c_148 : (x = 0) := c_148
                        refine lv_aload_n hx hb d_Mod_list_158 rfl (lv_at hl 1 rfl) ?_
                        refine hx_Vv (wr := []) (As := []) (rest := []) hI (c_Mod_thingWord s_100 i_100 j_100) (cw_V (C := "HeadDeskModel") 0 hts m_3_190 m_3_192 ms_41 m_1_5 m_3_193 (by decide +kernel) ⟨by decide, by decide⟩) hX hA hP hD hS [0, 1, 2, 3, 4, 5, 6] [] rfl rfl (by decide) (by decide) (by decide) (va_recv hX.1 hP (ci := 4) (q0 := 0) rfl rfl) rfl hl.1 rfl (Nat.le_of_ble_eq_true rfl) d_Mod_list_159 ⟨Nat.zero_le _, Nat.zero_le _⟩ (fun H locs hP hD hS => ?_)
                        obtain ⟨s_159, e_159⟩ : ∃ z : MS, z = mThg s_100 := ⟨_, rfl⟩
                        have i_159 : mInv s_159 := by rw [e_159]; exact inv_kq kq_thg (by decide) (by decide) (by decide) i_100
                        have j_159 : wInv s_159 := by rw [e_159]; exact wv_kq kq_thg (by decide) (by decide) j_100
                        have hP : va_P D vwCl (mdW bd ce s_159) H := by rw [e_159]; exact hP
                        have hD : va_D A (mdW bd ce s_159) := by rw [e_159]; exact hD
                        refine lv_aload_n hx hb d_Mod_list_162 rfl (lv_at hl 1 rfl) ?_
                        refine hx_Vi (wr := []) (As := []) (rest := []) hI (c_Mod_see s_159 i_159 ) (cw_V (C := "HeadDeskModel") 0 hts m_3_109 m_3_111 ms_26 m_1_5 m_3_112 (by decide +kernel) ⟨by decide, by decide⟩) hX hA hP hD hS [0, 1, 2, 3, 4, 5, 6] [] rfl rfl (by decide) (by decide) (by decide) (va_recv hX.1 hP (ci := 4) (q0 := 0) rfl rfl) rfl hl.1 rfl (Nat.le_of_ble_eq_true rfl) d_Mod_list_163 ⟨Nat.zero_le _, Nat.zero_le _⟩ (fun H locs hP hD hS => ?_)
                        have hP : va_P D vwCl (mdW bd ce s_159) H := hP
                        have hD : va_D A (mdW bd ce s_159) := hD
                        refine lv_bipush (v := 44) hx hb d_Mod_list_166 (by decide) ?_
                        refine lv_icmp_ne (tgt := 175) hx hb d_Mod_list_168 (by decide) (fun c_168 => ?_) (fun c_168 => ?_)
                        · skip
                          have c_168 : ¬ (mSee s_159 = 44) := c_168
                          refine lv_iconst (v := 0) hx hb d_Mod_list_175 (by decide) ?_
                          refine lv_istore_n (lv' := [(2, .int 0), (0, .ref (bd 0)), (1, .int x)]) hx hb d_Mod_list_176 rfl hl (by decide) rfl (fun ls hl => ?_)
                          refine lv_iload_n hx hb d_Mod_list_177 rfl (lv_at hl 0 rfl) ?_
                          refine lv_if_eq (tgt := 2) hx hb d_Mod_list_178 (by decide) (fun c_178 => ?_) (fun c_178 => ?_)
                          · skip
                            refine lv_iload_n hx hb d_Mod_list_2 rfl (lv_at hl 0 rfl) ?_
                            refine lv_if_eq (tgt := 201) hx hb d_Mod_list_3 (by decide) (fun c_3 => ?_) (fun c_3 => ?_)
                            · skip
                              exact hret H locs s_159 _ _ hP hD hS (by rw [hF]; (try simp only [mLisL, mLisW, mLisA, if_pos c_10, if_pos c_60, if_pos c_107, if_neg c_116, if_pos c_143, if_pos c_148, if_neg c_168, ← e_18, ← e_21, ← e_49, ← e_68, ← e_100, ← e_159, if_true, if_false, Bool.false_eq_true, ↓reduceIte]) <;> (try simp only [mLisB, if_pos c_10, if_pos c_60, if_pos c_107, if_neg c_116, if_pos c_143, if_pos c_148, if_neg c_168, ← e_18, ← e_21, ← e_49, ← e_68, ← e_100, ← e_159, if_true, if_false, Bool.false_eq_true, ↓reduceIte]) <;> (try simp only [mLisC, mNx, if_pos c_10, if_pos c_60, if_pos c_107, if_neg c_116, if_pos c_143, if_pos c_148, if_neg c_168, ← e_18, ← e_21, ← e_49, ← e_68, ← e_100, ← e_159, if_true, if_false, Bool.false_eq_true, ↓reduceIte]) <;> (try simp only [mLisD, if_pos c_10, if_pos c_60, if_pos c_107, if_neg c_116, if_pos c_143, if_pos c_148, if_neg c_168, ← e_18, ← e_21, ← e_49, ← e_68, ← e_100, ← e_159, if_true, if_false, Bool.false_eq_true, ↓reduceIte]) <;> (try simp only [mLisE, mNx, if_pos c_10, if_pos c_60, if_pos c_107, if_neg c_116, if_pos c_143, if_pos c_148, if_neg c_168, ← e_18, ← e_21, ← e_49, ← e_68, ← e_100, ← e_159, if_true, if_false, Bool.false_eq_true, ↓reduceIte]) <;> (first | done | with_reducible rfl | rw [e_159])) d_Mod_list_201
                            · skip
                              exact absurd (by decide) c_3
                          · skip
                            exact absurd (by decide) c_178
                        · skip
                          have c_168 : (mSee s_159 = 44) := c_168
                          refine lv_iconst (v := 1) hx hb d_Mod_list_171 (by decide) ?_
                          refine lv_goto (tgt := 176) hx hb d_Mod_list_172 (by decide) ?_
                          refine lv_istore_n (lv' := [(2, .int 1), (0, .ref (bd 0)), (1, .int x)]) hx hb d_Mod_list_176 rfl hl (by decide) rfl (fun ls hl => ?_)
                          refine lv_iload_n hx hb d_Mod_list_177 rfl (lv_at hl 0 rfl) ?_
                          refine lv_if_eq (tgt := 2) hx hb d_Mod_list_178 (by decide) (fun c_178 => ?_) (fun c_178 => ?_)
                          · skip
                            exact absurd c_178 (by decide)
                          · skip
                            refine lv_aload_n hx hb d_Mod_list_181 rfl (lv_at hl 1 rfl) ?_
                            refine lv_dup hx hb d_Mod_list_182 rfl ?_
                            refine va_get (D := D) (ci := 4) (v := .int (gR s_159 3)) (C := "HeadDeskModel") (T := F_Mod) (N := 38) hx hb hts a_Mod hown hX.1 hP 0 rfl rfl 4 (by decide) (hts _ m_2_221) (fun _ h9 => h9) rfl d_Mod_list_183 ?_
                            refine lv_iconst (v := 1) hx hb d_Mod_list_186 (by decide) ?_
                            refine lv_iadd hx hb d_Mod_list_187 ?_
                            refine va_put (D := D) (ci := 4) (v := .int ((gR s_159 3) + 1)) (ty := .int) (C := "HeadDeskModel") (T := F_Mod) (N := 38) hx hb hts a_Mod t_Mod k_Mod n_Mod hown hX.1 hP hD hS 0 rfl rfl 4 (by decide) (hts _ m_2_221) (fun _ h9 => h9) rfl (by decide +kernel) rfl rfl (Nat.le_of_ble_eq_true rfl) d_Mod_list_188 (fun H locs hP hD hS => ?_)
                            have hP : va_P D vwCl (mdW bd ce (wR s_159 3 ((gR s_159 3) + 1))) H := hP
                            have hD : va_D A (mdW bd ce (wR s_159 3 ((gR s_159 3) + 1))) := hD
                            have i_188 : mInv (wR s_159 3 ((gR s_159 3) + 1)) := inv_nx (s := s_159) i_159 (see_lt c_168 (by decide))
                            obtain ⟨s_188, e_188⟩ : ∃ z : MS, z = wR s_159 3 ((gR s_159 3) + 1) := ⟨_, rfl⟩
                            have hP : va_P D vwCl (mdW bd ce s_188) H := by rw [e_188]; exact hP
                            have hD : va_D A (mdW bd ce s_188) := by rw [e_188]; exact hD
                            have i_188 : mInv s_188 := by rw [e_188]; exact i_188
                            have j_188 : wInv s_188 := by rw [e_188]; exact j_159
                            refine lv_aload_n hx hb d_Mod_list_191 rfl (lv_at hl 1 rfl) ?_
                            refine lv_bipush (v := 32) hx hb d_Mod_list_192 (by decide) ?_
                            refine hx_Vz (wr := []) (As := [.int 32]) (rest := []) hI (c_Mod_expect s_188 i_188 32 (by decide)) (cw_V (C := "HeadDeskModel") 1 hts m_3_120 m_3_122 ms_28 m_1_5 m_3_123 (by decide +kernel) ⟨by decide, by decide⟩) hX hA hP hD hS [0, 1, 2, 3, 4, 5, 6] [] rfl rfl (by decide) (by decide) (by decide) (va_recv hX.1 hP (ci := 4) (q0 := 0) rfl rfl) rfl hl.1 rfl (Nat.le_of_ble_eq_true rfl) d_Mod_list_194 ⟨Nat.zero_le _, Nat.zero_le _⟩ (fun H locs hP hD hS => ?_)
                            obtain ⟨s_194, e_194⟩ : ∃ z : MS, z = (mExp s_188 32).2 := ⟨_, rfl⟩
                            have i_194 : mInv s_194 := by rw [e_194]; exact inv_exp i_188 (by decide)
                            have j_194 : wInv s_194 := by rw [e_194]; exact wv_kq kq_exp (by decide) (by decide) j_188
                            have hP : va_P D vwCl (mdW bd ce s_194) H := by rw [e_194]; exact hP
                            have hD : va_D A (mdW bd ce s_194) := by rw [e_194]; exact hD
                            refine lv_pop hx hb d_Mod_list_197 rfl ?_
                            refine lv_goto (tgt := 2) hx hb d_Mod_list_198 (by decide) ?_
                            have a_1 : Ad s1 s_159 := by
                              rw [e_159]
                              refine Ad.tr ?_ (ad_kq kq_thg (by decide) (by decide))
                              rw [e_100]
                              refine Ad.tr ?_ (Ad.reg (by decide) (by decide))
                              rw [e_68]
                              refine Ad.tr ?_ ad_wr
                              rw [e_49]
                              refine Ad.tr ?_ (Ad.reg (by decide) (by decide))
                              rw [e_21]
                              refine Ad.tr ?_ (ad_letL 300 _ i_18)
                              rw [e_18]
                              exact Ad.reg (by decide) (by decide)
                            exact ih s_194 H locs ls (by rw [e_194, e_188]; exact li_2 i_159 (see_lt c_168 (by decide)) a_1 (ad_exp (by have q := i_188; rw [e_188] at q; exact q) (by decide)) hj) i_194 (by rw [hF]; (try simp only [mLisL, mLisW, mLisA, if_pos c_10, if_pos c_60, if_pos c_107, if_neg c_116, if_pos c_143, if_pos c_148, if_pos c_168, ← e_18, ← e_21, ← e_49, ← e_68, ← e_100, ← e_159, ← e_188, ← e_194, if_true, if_false, Bool.false_eq_true, ↓reduceIte]) <;> (try simp only [mLisB, if_pos c_10, if_pos c_60, if_pos c_107, if_neg c_116, if_pos c_143, if_pos c_148, if_pos c_168, ← e_18, ← e_21, ← e_49, ← e_68, ← e_100, ← e_159, ← e_188, ← e_194, if_true, if_false, Bool.false_eq_true, ↓reduceIte]) <;> (try simp only [mLisC, mNx, if_pos c_10, if_pos c_60, if_pos c_107, if_neg c_116, if_pos c_143, if_pos c_148, if_pos c_168, ← e_18, ← e_21, ← e_49, ← e_68, ← e_100, ← e_159, ← e_188, ← e_194, if_true, if_false, Bool.false_eq_true, ↓reduceIte]) <;> (try simp only [mLisD, if_pos c_10, if_pos c_60, if_pos c_107, if_neg c_116, if_pos c_143, if_pos c_148, if_pos c_168, ← e_18, ← e_21, ← e_49, ← e_68, ← e_100, ← e_159, ← e_188, ← e_194, if_true, if_false, Bool.false_eq_true, ↓reduceIte]) <;> (try simp only [mLisE, mNx, if_pos c_10, if_pos c_60, if_pos c_107, if_neg c_116, if_pos c_143, if_pos c_148, if_pos c_168, ← e_18, ← e_21, ← e_49, ← e_68, ← e_100, ← e_159, ← e_188, ← e_194, if_true, if_false, Bool.false_eq_true, ↓reduceIte]) <;> (first | done | with_reducible rfl | rw [e_194])) hP hD hS (lv_sub hl [0, 1, 2] rfl)
                      · skip
                        have c_148 : ¬ (x = 0) := c_148
                        refine lv_aload_n hx hb d_Mod_list_151 rfl (lv_at hl 1 rfl) ?_
                        refine hx_Vv (wr := []) (As := []) (rest := []) hI (c_Mod_requestWord s_100 i_100 j_100) (cw_V (C := "HeadDeskModel") 0 hts m_3_177 m_3_179 ms_39 m_1_5 m_3_180 (by decide +kernel) ⟨by decide, by decide⟩) hX hA hP hD hS [0, 1, 2, 3, 4, 5, 6] [] rfl rfl (by decide) (by decide) (by decide) (va_recv hX.1 hP (ci := 4) (q0 := 0) rfl rfl) rfl hl.1 rfl (Nat.le_of_ble_eq_true rfl) d_Mod_list_152 ⟨Nat.zero_le _, Nat.zero_le _⟩ (fun H locs hP hD hS => ?_)
                        obtain ⟨s_152, e_152⟩ : ∃ z : MS, z = mReq s_100 := ⟨_, rfl⟩
                        have i_152 : mInv s_152 := by rw [e_152]; exact inv_kq kq_req (by decide) (by decide) (by decide) i_100
                        have j_152 : wInv s_152 := by rw [e_152]; exact wv_kq kq_req (by decide) (by decide) j_100
                        have hP : va_P D vwCl (mdW bd ce s_152) H := by rw [e_152]; exact hP
                        have hD : va_D A (mdW bd ce s_152) := by rw [e_152]; exact hD
                        refine lv_goto (tgt := 162) hx hb d_Mod_list_155 (by decide) ?_
                        refine lv_aload_n hx hb d_Mod_list_162 rfl (lv_at hl 1 rfl) ?_
                        refine hx_Vi (wr := []) (As := []) (rest := []) hI (c_Mod_see s_152 i_152 ) (cw_V (C := "HeadDeskModel") 0 hts m_3_109 m_3_111 ms_26 m_1_5 m_3_112 (by decide +kernel) ⟨by decide, by decide⟩) hX hA hP hD hS [0, 1, 2, 3, 4, 5, 6] [] rfl rfl (by decide) (by decide) (by decide) (va_recv hX.1 hP (ci := 4) (q0 := 0) rfl rfl) rfl hl.1 rfl (Nat.le_of_ble_eq_true rfl) d_Mod_list_163 ⟨Nat.zero_le _, Nat.zero_le _⟩ (fun H locs hP hD hS => ?_)
                        have hP : va_P D vwCl (mdW bd ce s_152) H := hP
                        have hD : va_D A (mdW bd ce s_152) := hD
                        refine lv_bipush (v := 44) hx hb d_Mod_list_166 (by decide) ?_
                        refine lv_icmp_ne (tgt := 175) hx hb d_Mod_list_168 (by decide) (fun c_168 => ?_) (fun c_168 => ?_)
                        · skip
                          have c_168 : ¬ (mSee s_152 = 44) := c_168
                          refine lv_iconst (v := 0) hx hb d_Mod_list_175 (by decide) ?_
                          refine lv_istore_n (lv' := [(2, .int 0), (0, .ref (bd 0)), (1, .int x)]) hx hb d_Mod_list_176 rfl hl (by decide) rfl (fun ls hl => ?_)
                          refine lv_iload_n hx hb d_Mod_list_177 rfl (lv_at hl 0 rfl) ?_
                          refine lv_if_eq (tgt := 2) hx hb d_Mod_list_178 (by decide) (fun c_178 => ?_) (fun c_178 => ?_)
                          · skip
                            refine lv_iload_n hx hb d_Mod_list_2 rfl (lv_at hl 0 rfl) ?_
                            refine lv_if_eq (tgt := 201) hx hb d_Mod_list_3 (by decide) (fun c_3 => ?_) (fun c_3 => ?_)
                            · skip
                              exact hret H locs s_152 _ _ hP hD hS (by rw [hF]; (try simp only [mLisL, mLisW, mLisA, if_pos c_10, if_pos c_60, if_pos c_107, if_neg c_116, if_pos c_143, if_neg c_148, if_neg c_168, ← e_18, ← e_21, ← e_49, ← e_68, ← e_100, ← e_152, if_true, if_false, Bool.false_eq_true, ↓reduceIte]) <;> (try simp only [mLisB, if_pos c_10, if_pos c_60, if_pos c_107, if_neg c_116, if_pos c_143, if_neg c_148, if_neg c_168, ← e_18, ← e_21, ← e_49, ← e_68, ← e_100, ← e_152, if_true, if_false, Bool.false_eq_true, ↓reduceIte]) <;> (try simp only [mLisC, mNx, if_pos c_10, if_pos c_60, if_pos c_107, if_neg c_116, if_pos c_143, if_neg c_148, if_neg c_168, ← e_18, ← e_21, ← e_49, ← e_68, ← e_100, ← e_152, if_true, if_false, Bool.false_eq_true, ↓reduceIte]) <;> (try simp only [mLisD, if_pos c_10, if_pos c_60, if_pos c_107, if_neg c_116, if_pos c_143, if_neg c_148, if_neg c_168, ← e_18, ← e_21, ← e_49, ← e_68, ← e_100, ← e_152, if_true, if_false, Bool.false_eq_true, ↓reduceIte]) <;> (try simp only [mLisE, mNx, if_pos c_10, if_pos c_60, if_pos c_107, if_neg c_116, if_pos c_143, if_neg c_148, if_neg c_168, ← e_18, ← e_21, ← e_49, ← e_68, ← e_100, ← e_152, if_true, if_false, Bool.false_eq_true, ↓reduceIte]) <;> (first | done | with_reducible rfl | rw [e_152])) d_Mod_list_201
                            · skip
                              exact absurd (by decide) c_3
                          · skip
                            exact absurd (by decide) c_178
                        · skip
                          have c_168 : (mSee s_152 = 44) := c_168
                          refine lv_iconst (v := 1) hx hb d_Mod_list_171 (by decide) ?_
                          refine lv_goto (tgt := 176) hx hb d_Mod_list_172 (by decide) ?_
                          refine lv_istore_n (lv' := [(2, .int 1), (0, .ref (bd 0)), (1, .int x)]) hx hb d_Mod_list_176 rfl hl (by decide) rfl (fun ls hl => ?_)
                          refine lv_iload_n hx hb d_Mod_list_177 rfl (lv_at hl 0 rfl) ?_
                          refine lv_if_eq (tgt := 2) hx hb d_Mod_list_178 (by decide) (fun c_178 => ?_) (fun c_178 => ?_)
                          · skip
                            exact absurd c_178 (by decide)
                          · skip
                            refine lv_aload_n hx hb d_Mod_list_181 rfl (lv_at hl 1 rfl) ?_
                            refine lv_dup hx hb d_Mod_list_182 rfl ?_
                            refine va_get (D := D) (ci := 4) (v := .int (gR s_152 3)) (C := "HeadDeskModel") (T := F_Mod) (N := 38) hx hb hts a_Mod hown hX.1 hP 0 rfl rfl 4 (by decide) (hts _ m_2_221) (fun _ h9 => h9) rfl d_Mod_list_183 ?_
                            refine lv_iconst (v := 1) hx hb d_Mod_list_186 (by decide) ?_
                            refine lv_iadd hx hb d_Mod_list_187 ?_
                            refine va_put (D := D) (ci := 4) (v := .int ((gR s_152 3) + 1)) (ty := .int) (C := "HeadDeskModel") (T := F_Mod) (N := 38) hx hb hts a_Mod t_Mod k_Mod n_Mod hown hX.1 hP hD hS 0 rfl rfl 4 (by decide) (hts _ m_2_221) (fun _ h9 => h9) rfl (by decide +kernel) rfl rfl (Nat.le_of_ble_eq_true rfl) d_Mod_list_188 (fun H locs hP hD hS => ?_)
                            have hP : va_P D vwCl (mdW bd ce (wR s_152 3 ((gR s_152 3) + 1))) H := hP
                            have hD : va_D A (mdW bd ce (wR s_152 3 ((gR s_152 3) + 1))) := hD
                            have i_188 : mInv (wR s_152 3 ((gR s_152 3) + 1)) := inv_nx (s := s_152) i_152 (see_lt c_168 (by decide))
                            obtain ⟨s_188, e_188⟩ : ∃ z : MS, z = wR s_152 3 ((gR s_152 3) + 1) := ⟨_, rfl⟩
                            have hP : va_P D vwCl (mdW bd ce s_188) H := by rw [e_188]; exact hP
                            have hD : va_D A (mdW bd ce s_188) := by rw [e_188]; exact hD
                            have i_188 : mInv s_188 := by rw [e_188]; exact i_188
                            have j_188 : wInv s_188 := by rw [e_188]; exact j_152
                            refine lv_aload_n hx hb d_Mod_list_191 rfl (lv_at hl 1 rfl) ?_
                            refine lv_bipush (v := 32) hx hb d_Mod_list_192 (by decide) ?_
                            refine hx_Vz (wr := []) (As := [.int 32]) (rest := []) hI (c_Mod_expect s_188 i_188 32 (by decide)) (cw_V (C := "HeadDeskModel") 1 hts m_3_120 m_3_122 ms_28 m_1_5 m_3_123 (by decide +kernel) ⟨by decide, by decide⟩) hX hA hP hD hS [0, 1, 2, 3, 4, 5, 6] [] rfl rfl (by decide) (by decide) (by decide) (va_recv hX.1 hP (ci := 4) (q0 := 0) rfl rfl) rfl hl.1 rfl (Nat.le_of_ble_eq_true rfl) d_Mod_list_194 ⟨Nat.zero_le _, Nat.zero_le _⟩ (fun H locs hP hD hS => ?_)
                            obtain ⟨s_194, e_194⟩ : ∃ z : MS, z = (mExp s_188 32).2 := ⟨_, rfl⟩
                            have i_194 : mInv s_194 := by rw [e_194]; exact inv_exp i_188 (by decide)
                            have j_194 : wInv s_194 := by rw [e_194]; exact wv_kq kq_exp (by decide) (by decide) j_188
                            have hP : va_P D vwCl (mdW bd ce s_194) H := by rw [e_194]; exact hP
                            have hD : va_D A (mdW bd ce s_194) := by rw [e_194]; exact hD
                            refine lv_pop hx hb d_Mod_list_197 rfl ?_
                            refine lv_goto (tgt := 2) hx hb d_Mod_list_198 (by decide) ?_
                            have a_1 : Ad s1 s_152 := by
                              rw [e_152]
                              refine Ad.tr ?_ (ad_kq kq_req (by decide) (by decide))
                              rw [e_100]
                              refine Ad.tr ?_ (Ad.reg (by decide) (by decide))
                              rw [e_68]
                              refine Ad.tr ?_ ad_wr
                              rw [e_49]
                              refine Ad.tr ?_ (Ad.reg (by decide) (by decide))
                              rw [e_21]
                              refine Ad.tr ?_ (ad_letL 300 _ i_18)
                              rw [e_18]
                              exact Ad.reg (by decide) (by decide)
                            exact ih s_194 H locs ls (by rw [e_194, e_188]; exact li_2 i_152 (see_lt c_168 (by decide)) a_1 (ad_exp (by have q := i_188; rw [e_188] at q; exact q) (by decide)) hj) i_194 (by rw [hF]; (try simp only [mLisL, mLisW, mLisA, if_pos c_10, if_pos c_60, if_pos c_107, if_neg c_116, if_pos c_143, if_neg c_148, if_pos c_168, ← e_18, ← e_21, ← e_49, ← e_68, ← e_100, ← e_152, ← e_188, ← e_194, if_true, if_false, Bool.false_eq_true, ↓reduceIte]) <;> (try simp only [mLisB, if_pos c_10, if_pos c_60, if_pos c_107, if_neg c_116, if_pos c_143, if_neg c_148, if_pos c_168, ← e_18, ← e_21, ← e_49, ← e_68, ← e_100, ← e_152, ← e_188, ← e_194, if_true, if_false, Bool.false_eq_true, ↓reduceIte]) <;> (try simp only [mLisC, mNx, if_pos c_10, if_pos c_60, if_pos c_107, if_neg c_116, if_pos c_143, if_neg c_148, if_pos c_168, ← e_18, ← e_21, ← e_49, ← e_68, ← e_100, ← e_152, ← e_188, ← e_194, if_true, if_false, Bool.false_eq_true, ↓reduceIte]) <;> (try simp only [mLisD, if_pos c_10, if_pos c_60, if_pos c_107, if_neg c_116, if_pos c_143, if_neg c_148, if_pos c_168, ← e_18, ← e_21, ← e_49, ← e_68, ← e_100, ← e_152, ← e_188, ← e_194, if_true, if_false, Bool.false_eq_true, ↓reduceIte]) <;> (try simp only [mLisE, mNx, if_pos c_10, if_pos c_60, if_pos c_107, if_neg c_116, if_pos c_143, if_neg c_148, if_pos c_168, ← e_18, ← e_21, ← e_49, ← e_68, ← e_100, ← e_152, ← e_188, ← e_194, if_true, if_false, Bool.false_eq_true, ↓reduceIte]) <;> (first | done | with_reducible rfl | rw [e_194])) hP hD hS (lv_sub hl [0, 1, 2] rfl)
                    · skip
                      exact absurd c_107 c_143
                  · skip
                    have c_116 : (mSee s_100 = 61) := c_116
                    refine lv_aload_n hx hb d_Mod_list_119 rfl (lv_at hl 1 rfl) ?_
                    refine lv_dup hx hb d_Mod_list_120 rfl ?_
                    refine va_get (D := D) (ci := 4) (v := .int (gR s_100 3)) (C := "HeadDeskModel") (T := F_Mod) (N := 38) hx hb hts a_Mod hown hX.1 hP 0 rfl rfl 4 (by decide) (hts _ m_2_221) (fun _ h9 => h9) rfl d_Mod_list_121 ?_
                    refine lv_iconst (v := 1) hx hb d_Mod_list_124 (by decide) ?_
                    refine lv_iadd hx hb d_Mod_list_125 ?_
                    refine va_put (D := D) (ci := 4) (v := .int ((gR s_100 3) + 1)) (ty := .int) (C := "HeadDeskModel") (T := F_Mod) (N := 38) hx hb hts a_Mod t_Mod k_Mod n_Mod hown hX.1 hP hD hS 0 rfl rfl 4 (by decide) (hts _ m_2_221) (fun _ h9 => h9) rfl (by decide +kernel) rfl rfl (Nat.le_of_ble_eq_true rfl) d_Mod_list_126 (fun H locs hP hD hS => ?_)
                    have hP : va_P D vwCl (mdW bd ce (wR s_100 3 ((gR s_100 3) + 1))) H := hP
                    have hD : va_D A (mdW bd ce (wR s_100 3 ((gR s_100 3) + 1))) := hD
                    have i_126 : mInv (wR s_100 3 ((gR s_100 3) + 1)) := inv_nx (s := s_100) i_100 (see_lt c_116 (by decide))
                    obtain ⟨s_126, e_126⟩ : ∃ z : MS, z = wR s_100 3 ((gR s_100 3) + 1) := ⟨_, rfl⟩
                    have hP : va_P D vwCl (mdW bd ce s_126) H := by rw [e_126]; exact hP
                    have hD : va_D A (mdW bd ce s_126) := by rw [e_126]; exact hD
                    have i_126 : mInv s_126 := by rw [e_126]; exact i_126
                    have j_126 : wInv s_126 := by rw [e_126]; exact j_100
                    refine lv_aload_n hx hb d_Mod_list_129 rfl (lv_at hl 1 rfl) ?_
                    refine lv_aload_n hx hb d_Mod_list_130 rfl (lv_at hl 1 rfl) ?_
                    refine lv_ldc (v := 99999) hx hb hown (hts _ m_3_166) d_Mod_list_131 ?_
                    refine hx_Vi (wr := []) (As := [.int 99999]) (rest := [.ref (bd 0)]) hI (c_Mod_number s_126 i_126 99999) (cw_V (C := "HeadDeskModel") 1 hts m_3_134 m_3_136 ms_31 m_1_5 m_3_137 (by decide +kernel) ⟨by decide, by decide⟩) hX hA hP hD hS [0, 1, 2, 3, 4, 5, 6] [] rfl rfl (by decide) (by decide) (by decide) (va_recv hX.1 hP (ci := 4) (q0 := 0) rfl rfl) rfl hl.1 rfl (Nat.le_of_ble_eq_true rfl) d_Mod_list_133 ⟨Nat.zero_le _, Nat.zero_le _⟩ (fun H locs hP hD hS => ?_)
                    obtain ⟨s_133, e_133⟩ : ∃ z : MS, z = (mNum s_126 99999).2 := ⟨_, rfl⟩
                    have i_133 : mInv s_133 := by rw [e_133]; exact inv_num i_126
                    have j_133 : wInv s_133 := by rw [e_133]; exact wv_kq kq_num (by decide) (by decide) j_126
                    have hP : va_P D vwCl (mdW bd ce s_133) H := by rw [e_133]; exact hP
                    have hD : va_D A (mdW bd ce s_133) := by rw [e_133]; exact hD
                    refine va_put (D := D) (ci := 4) (v := .int ((mNum s_126 99999).1)) (ty := .int) (C := "HeadDeskModel") (T := F_Mod) (N := 38) hx hb hts a_Mod t_Mod k_Mod n_Mod hown hX.1 hP hD hS 0 rfl rfl 37 (by decide) (hts _ m_3_14) (fun _ h9 => h9) rfl (by decide +kernel) rfl rfl (Nat.le_of_ble_eq_true rfl) d_Mod_list_136 (fun H locs hP hD hS => ?_)
                    have hP : va_P D vwCl (mdW bd ce (wR s_133 31 ((mNum s_126 99999).1))) H := hP
                    have hD : va_D A (mdW bd ce (wR s_133 31 ((mNum s_126 99999).1))) := hD
                    obtain ⟨s_136, e_136⟩ : ∃ z : MS, z = wR s_133 31 ((mNum s_126 99999).1) := ⟨_, rfl⟩
                    have hP : va_P D vwCl (mdW bd ce s_136) H := by rw [e_136]; exact hP
                    have hD : va_D A (mdW bd ce s_136) := by rw [e_136]; exact hD
                    have i_136 : mInv s_136 := by rw [e_136]; exact i_133
                    have j_136 : wInv s_136 := by rw [e_136]; exact j_133
                    refine lv_aload_n hx hb d_Mod_list_139 rfl (lv_at hl 1 rfl) ?_
                    refine va_get (D := D) (ci := 4) (v := .int (gR s_136 4)) (C := "HeadDeskModel") (T := F_Mod) (N := 38) hx hb hts a_Mod hown hX.1 hP 0 rfl rfl 5 (by decide) (hts _ m_2_222) (fun _ h9 => h9) rfl d_Mod_list_140 ?_
                    refine lv_if_eq (tgt := 147) hx hb d_Mod_list_143 (by decide) (fun c_143 => ?_) (fun c_143 => ?_)
                    · skip
                      have c_143 : (gR s_136 4 = 0) := c_143
                      refine lv_iload_n hx hb d_Mod_list_147 rfl (lv_at hl 2 rfl) ?_
                      refine lv_if_eq (tgt := 158) hx hb d_Mod_list_148 (by decide) (fun c_148 => ?_) (fun c_148 => ?_)
                      · skip
                        have c_148 : (x = 0) := c_148
                        refine lv_aload_n hx hb d_Mod_list_158 rfl (lv_at hl 1 rfl) ?_
                        refine hx_Vv (wr := []) (As := []) (rest := []) hI (c_Mod_thingWord s_136 i_136 j_136) (cw_V (C := "HeadDeskModel") 0 hts m_3_190 m_3_192 ms_41 m_1_5 m_3_193 (by decide +kernel) ⟨by decide, by decide⟩) hX hA hP hD hS [0, 1, 2, 3, 4, 5, 6] [] rfl rfl (by decide) (by decide) (by decide) (va_recv hX.1 hP (ci := 4) (q0 := 0) rfl rfl) rfl hl.1 rfl (Nat.le_of_ble_eq_true rfl) d_Mod_list_159 ⟨Nat.zero_le _, Nat.zero_le _⟩ (fun H locs hP hD hS => ?_)
                        obtain ⟨s_159, e_159⟩ : ∃ z : MS, z = mThg s_136 := ⟨_, rfl⟩
                        have i_159 : mInv s_159 := by rw [e_159]; exact inv_kq kq_thg (by decide) (by decide) (by decide) i_136
                        have j_159 : wInv s_159 := by rw [e_159]; exact wv_kq kq_thg (by decide) (by decide) j_136
                        have hP : va_P D vwCl (mdW bd ce s_159) H := by rw [e_159]; exact hP
                        have hD : va_D A (mdW bd ce s_159) := by rw [e_159]; exact hD
                        refine lv_aload_n hx hb d_Mod_list_162 rfl (lv_at hl 1 rfl) ?_
                        refine hx_Vi (wr := []) (As := []) (rest := []) hI (c_Mod_see s_159 i_159 ) (cw_V (C := "HeadDeskModel") 0 hts m_3_109 m_3_111 ms_26 m_1_5 m_3_112 (by decide +kernel) ⟨by decide, by decide⟩) hX hA hP hD hS [0, 1, 2, 3, 4, 5, 6] [] rfl rfl (by decide) (by decide) (by decide) (va_recv hX.1 hP (ci := 4) (q0 := 0) rfl rfl) rfl hl.1 rfl (Nat.le_of_ble_eq_true rfl) d_Mod_list_163 ⟨Nat.zero_le _, Nat.zero_le _⟩ (fun H locs hP hD hS => ?_)
                        have hP : va_P D vwCl (mdW bd ce s_159) H := hP
                        have hD : va_D A (mdW bd ce s_159) := hD
                        refine lv_bipush (v := 44) hx hb d_Mod_list_166 (by decide) ?_
                        refine lv_icmp_ne (tgt := 175) hx hb d_Mod_list_168 (by decide) (fun c_168 => ?_) (fun c_168 => ?_)
                        · skip
                          have c_168 : ¬ (mSee s_159 = 44) := c_168
                          refine lv_iconst (v := 0) hx hb d_Mod_list_175 (by decide) ?_
                          refine lv_istore_n (lv' := [(2, .int 0), (0, .ref (bd 0)), (1, .int x)]) hx hb d_Mod_list_176 rfl hl (by decide) rfl (fun ls hl => ?_)
                          refine lv_iload_n hx hb d_Mod_list_177 rfl (lv_at hl 0 rfl) ?_
                          refine lv_if_eq (tgt := 2) hx hb d_Mod_list_178 (by decide) (fun c_178 => ?_) (fun c_178 => ?_)
                          · skip
                            refine lv_iload_n hx hb d_Mod_list_2 rfl (lv_at hl 0 rfl) ?_
                            refine lv_if_eq (tgt := 201) hx hb d_Mod_list_3 (by decide) (fun c_3 => ?_) (fun c_3 => ?_)
                            · skip
                              exact hret H locs s_159 _ _ hP hD hS (by rw [hF]; (try simp only [mLisL, mLisW, mLisA, if_pos c_10, if_pos c_60, if_pos c_107, if_pos c_116, if_pos c_143, if_pos c_148, if_neg c_168, ← e_18, ← e_21, ← e_49, ← e_68, ← e_100, ← e_126, ← e_133, ← e_136, ← e_159, if_true, if_false, Bool.false_eq_true, ↓reduceIte]) <;> (try simp only [mLisB, if_pos c_10, if_pos c_60, if_pos c_107, if_pos c_116, if_pos c_143, if_pos c_148, if_neg c_168, ← e_18, ← e_21, ← e_49, ← e_68, ← e_100, ← e_126, ← e_133, ← e_136, ← e_159, if_true, if_false, Bool.false_eq_true, ↓reduceIte]) <;> (try simp only [mLisC, mNx, if_pos c_10, if_pos c_60, if_pos c_107, if_pos c_116, if_pos c_143, if_pos c_148, if_neg c_168, ← e_18, ← e_21, ← e_49, ← e_68, ← e_100, ← e_126, ← e_133, ← e_136, ← e_159, if_true, if_false, Bool.false_eq_true, ↓reduceIte]) <;> (try simp only [mLisD, if_pos c_10, if_pos c_60, if_pos c_107, if_pos c_116, if_pos c_143, if_pos c_148, if_neg c_168, ← e_18, ← e_21, ← e_49, ← e_68, ← e_100, ← e_126, ← e_133, ← e_136, ← e_159, if_true, if_false, Bool.false_eq_true, ↓reduceIte]) <;> (try simp only [mLisE, mNx, if_pos c_10, if_pos c_60, if_pos c_107, if_pos c_116, if_pos c_143, if_pos c_148, if_neg c_168, ← e_18, ← e_21, ← e_49, ← e_68, ← e_100, ← e_126, ← e_133, ← e_136, ← e_159, if_true, if_false, Bool.false_eq_true, ↓reduceIte]) <;> (first | done | with_reducible rfl | rw [e_159])) d_Mod_list_201
                            · skip
                              exact absurd (by decide) c_3
                          · skip
                            exact absurd (by decide) c_178
                        · skip
                          have c_168 : (mSee s_159 = 44) := c_168
                          refine lv_iconst (v := 1) hx hb d_Mod_list_171 (by decide) ?_
                          refine lv_goto (tgt := 176) hx hb d_Mod_list_172 (by decide) ?_
                          refine lv_istore_n (lv' := [(2, .int 1), (0, .ref (bd 0)), (1, .int x)]) hx hb d_Mod_list_176 rfl hl (by decide) rfl (fun ls hl => ?_)
                          refine lv_iload_n hx hb d_Mod_list_177 rfl (lv_at hl 0 rfl) ?_
                          refine lv_if_eq (tgt := 2) hx hb d_Mod_list_178 (by decide) (fun c_178 => ?_) (fun c_178 => ?_)
                          · skip
                            exact absurd c_178 (by decide)
                          · skip
                            refine lv_aload_n hx hb d_Mod_list_181 rfl (lv_at hl 1 rfl) ?_
                            refine lv_dup hx hb d_Mod_list_182 rfl ?_
                            refine va_get (D := D) (ci := 4) (v := .int (gR s_159 3)) (C := "HeadDeskModel") (T := F_Mod) (N := 38) hx hb hts a_Mod hown hX.1 hP 0 rfl rfl 4 (by decide) (hts _ m_2_221) (fun _ h9 => h9) rfl d_Mod_list_183 ?_
                            refine lv_iconst (v := 1) hx hb d_Mod_list_186 (by decide) ?_
                            refine lv_iadd hx hb d_Mod_list_187 ?_
                            refine va_put (D := D) (ci := 4) (v := .int ((gR s_159 3) + 1)) (ty := .int) (C := "HeadDeskModel") (T := F_Mod) (N := 38) hx hb hts a_Mod t_Mod k_Mod n_Mod hown hX.1 hP hD hS 0 rfl rfl 4 (by decide) (hts _ m_2_221) (fun _ h9 => h9) rfl (by decide +kernel) rfl rfl (Nat.le_of_ble_eq_true rfl) d_Mod_list_188 (fun H locs hP hD hS => ?_)
                            have hP : va_P D vwCl (mdW bd ce (wR s_159 3 ((gR s_159 3) + 1))) H := hP
                            have hD : va_D A (mdW bd ce (wR s_159 3 ((gR s_159 3) + 1))) := hD
                            have i_188 : mInv (wR s_159 3 ((gR s_159 3) + 1)) := inv_nx (s := s_159) i_159 (see_lt c_168 (by decide))
                            obtain ⟨s_188, e_188⟩ : ∃ z : MS, z = wR s_159 3 ((gR s_159 3) + 1) := ⟨_, rfl⟩
                            have hP : va_P D vwCl (mdW bd ce s_188) H := by rw [e_188]; exact hP
                            have hD : va_D A (mdW bd ce s_188) := by rw [e_188]; exact hD
                            have i_188 : mInv s_188 := by rw [e_188]; exact i_188
                            have j_188 : wInv s_188 := by rw [e_188]; exact j_159
                            refine lv_aload_n hx hb d_Mod_list_191 rfl (lv_at hl 1 rfl) ?_
                            refine lv_bipush (v := 32) hx hb d_Mod_list_192 (by decide) ?_
                            refine hx_Vz (wr := []) (As := [.int 32]) (rest := []) hI (c_Mod_expect s_188 i_188 32 (by decide)) (cw_V (C := "HeadDeskModel") 1 hts m_3_120 m_3_122 ms_28 m_1_5 m_3_123 (by decide +kernel) ⟨by decide, by decide⟩) hX hA hP hD hS [0, 1, 2, 3, 4, 5, 6] [] rfl rfl (by decide) (by decide) (by decide) (va_recv hX.1 hP (ci := 4) (q0 := 0) rfl rfl) rfl hl.1 rfl (Nat.le_of_ble_eq_true rfl) d_Mod_list_194 ⟨Nat.zero_le _, Nat.zero_le _⟩ (fun H locs hP hD hS => ?_)
                            obtain ⟨s_194, e_194⟩ : ∃ z : MS, z = (mExp s_188 32).2 := ⟨_, rfl⟩
                            have i_194 : mInv s_194 := by rw [e_194]; exact inv_exp i_188 (by decide)
                            have j_194 : wInv s_194 := by rw [e_194]; exact wv_kq kq_exp (by decide) (by decide) j_188
                            have hP : va_P D vwCl (mdW bd ce s_194) H := by rw [e_194]; exact hP
                            have hD : va_D A (mdW bd ce s_194) := by rw [e_194]; exact hD
                            refine lv_pop hx hb d_Mod_list_197 rfl ?_
                            refine lv_goto (tgt := 2) hx hb d_Mod_list_198 (by decide) ?_
                            have a_1 : Ad s1 s_159 := by
                              rw [e_159]
                              refine Ad.tr ?_ (ad_kq kq_thg (by decide) (by decide))
                              rw [e_136]
                              refine Ad.tr ?_ (Ad.reg (by decide) (by decide))
                              rw [e_133]
                              refine Ad.tr ?_ (ad_num i_126)
                              rw [e_126]
                              refine Ad.tr ?_ (ad_nx i_100 (see_lt c_116 (by decide)))
                              rw [e_100]
                              refine Ad.tr ?_ (Ad.reg (by decide) (by decide))
                              rw [e_68]
                              refine Ad.tr ?_ ad_wr
                              rw [e_49]
                              refine Ad.tr ?_ (Ad.reg (by decide) (by decide))
                              rw [e_21]
                              refine Ad.tr ?_ (ad_letL 300 _ i_18)
                              rw [e_18]
                              exact Ad.reg (by decide) (by decide)
                            exact ih s_194 H locs ls (by rw [e_194, e_188]; exact li_2 i_159 (see_lt c_168 (by decide)) a_1 (ad_exp (by have q := i_188; rw [e_188] at q; exact q) (by decide)) hj) i_194 (by rw [hF]; (try simp only [mLisL, mLisW, mLisA, if_pos c_10, if_pos c_60, if_pos c_107, if_pos c_116, if_pos c_143, if_pos c_148, if_pos c_168, ← e_18, ← e_21, ← e_49, ← e_68, ← e_100, ← e_126, ← e_133, ← e_136, ← e_159, ← e_188, ← e_194, if_true, if_false, Bool.false_eq_true, ↓reduceIte]) <;> (try simp only [mLisB, if_pos c_10, if_pos c_60, if_pos c_107, if_pos c_116, if_pos c_143, if_pos c_148, if_pos c_168, ← e_18, ← e_21, ← e_49, ← e_68, ← e_100, ← e_126, ← e_133, ← e_136, ← e_159, ← e_188, ← e_194, if_true, if_false, Bool.false_eq_true, ↓reduceIte]) <;> (try simp only [mLisC, mNx, if_pos c_10, if_pos c_60, if_pos c_107, if_pos c_116, if_pos c_143, if_pos c_148, if_pos c_168, ← e_18, ← e_21, ← e_49, ← e_68, ← e_100, ← e_126, ← e_133, ← e_136, ← e_159, ← e_188, ← e_194, if_true, if_false, Bool.false_eq_true, ↓reduceIte]) <;> (try simp only [mLisD, if_pos c_10, if_pos c_60, if_pos c_107, if_pos c_116, if_pos c_143, if_pos c_148, if_pos c_168, ← e_18, ← e_21, ← e_49, ← e_68, ← e_100, ← e_126, ← e_133, ← e_136, ← e_159, ← e_188, ← e_194, if_true, if_false, Bool.false_eq_true, ↓reduceIte]) <;> (try simp only [mLisE, mNx, if_pos c_10, if_pos c_60, if_pos c_107, if_pos c_116, if_pos c_143, if_pos c_148, if_pos c_168, ← e_18, ← e_21, ← e_49, ← e_68, ← e_100, ← e_126, ← e_133, ← e_136, ← e_159, ← e_188, ← e_194, if_true, if_false, Bool.false_eq_true, ↓reduceIte]) <;> (first | done | with_reducible rfl | rw [e_194])) hP hD hS (lv_sub hl [0, 1, 2] rfl)
                      · skip
                        have c_148 : ¬ (x = 0) := c_148
                        refine lv_aload_n hx hb d_Mod_list_151 rfl (lv_at hl 1 rfl) ?_
                        refine hx_Vv (wr := []) (As := []) (rest := []) hI (c_Mod_requestWord s_136 i_136 j_136) (cw_V (C := "HeadDeskModel") 0 hts m_3_177 m_3_179 ms_39 m_1_5 m_3_180 (by decide +kernel) ⟨by decide, by decide⟩) hX hA hP hD hS [0, 1, 2, 3, 4, 5, 6] [] rfl rfl (by decide) (by decide) (by decide) (va_recv hX.1 hP (ci := 4) (q0 := 0) rfl rfl) rfl hl.1 rfl (Nat.le_of_ble_eq_true rfl) d_Mod_list_152 ⟨Nat.zero_le _, Nat.zero_le _⟩ (fun H locs hP hD hS => ?_)
                        obtain ⟨s_152, e_152⟩ : ∃ z : MS, z = mReq s_136 := ⟨_, rfl⟩
                        have i_152 : mInv s_152 := by rw [e_152]; exact inv_kq kq_req (by decide) (by decide) (by decide) i_136
                        have j_152 : wInv s_152 := by rw [e_152]; exact wv_kq kq_req (by decide) (by decide) j_136
                        have hP : va_P D vwCl (mdW bd ce s_152) H := by rw [e_152]; exact hP
                        have hD : va_D A (mdW bd ce s_152) := by rw [e_152]; exact hD
                        refine lv_goto (tgt := 162) hx hb d_Mod_list_155 (by decide) ?_
                        refine lv_aload_n hx hb d_Mod_list_162 rfl (lv_at hl 1 rfl) ?_
                        refine hx_Vi (wr := []) (As := []) (rest := []) hI (c_Mod_see s_152 i_152 ) (cw_V (C := "HeadDeskModel") 0 hts m_3_109 m_3_111 ms_26 m_1_5 m_3_112 (by decide +kernel) ⟨by decide, by decide⟩) hX hA hP hD hS [0, 1, 2, 3, 4, 5, 6] [] rfl rfl (by decide) (by decide) (by decide) (va_recv hX.1 hP (ci := 4) (q0 := 0) rfl rfl) rfl hl.1 rfl (Nat.le_of_ble_eq_true rfl) d_Mod_list_163 ⟨Nat.zero_le _, Nat.zero_le _⟩ (fun H locs hP hD hS => ?_)
                        have hP : va_P D vwCl (mdW bd ce s_152) H := hP
                        have hD : va_D A (mdW bd ce s_152) := hD
                        refine lv_bipush (v := 44) hx hb d_Mod_list_166 (by decide) ?_
                        refine lv_icmp_ne (tgt := 175) hx hb d_Mod_list_168 (by decide) (fun c_168 => ?_) (fun c_168 => ?_)
                        · skip
                          have c_168 : ¬ (mSee s_152 = 44) := c_168
                          refine lv_iconst (v := 0) hx hb d_Mod_list_175 (by decide) ?_
                          refine lv_istore_n (lv' := [(2, .int 0), (0, .ref (bd 0)), (1, .int x)]) hx hb d_Mod_list_176 rfl hl (by decide) rfl (fun ls hl => ?_)
                          refine lv_iload_n hx hb d_Mod_list_177 rfl (lv_at hl 0 rfl) ?_
                          refine lv_if_eq (tgt := 2) hx hb d_Mod_list_178 (by decide) (fun c_178 => ?_) (fun c_178 => ?_)
                          · skip
                            refine lv_iload_n hx hb d_Mod_list_2 rfl (lv_at hl 0 rfl) ?_
                            refine lv_if_eq (tgt := 201) hx hb d_Mod_list_3 (by decide) (fun c_3 => ?_) (fun c_3 => ?_)
                            · skip
                              exact hret H locs s_152 _ _ hP hD hS (by rw [hF]; (try simp only [mLisL, mLisW, mLisA, if_pos c_10, if_pos c_60, if_pos c_107, if_pos c_116, if_pos c_143, if_neg c_148, if_neg c_168, ← e_18, ← e_21, ← e_49, ← e_68, ← e_100, ← e_126, ← e_133, ← e_136, ← e_152, if_true, if_false, Bool.false_eq_true, ↓reduceIte]) <;> (try simp only [mLisB, if_pos c_10, if_pos c_60, if_pos c_107, if_pos c_116, if_pos c_143, if_neg c_148, if_neg c_168, ← e_18, ← e_21, ← e_49, ← e_68, ← e_100, ← e_126, ← e_133, ← e_136, ← e_152, if_true, if_false, Bool.false_eq_true, ↓reduceIte]) <;> (try simp only [mLisC, mNx, if_pos c_10, if_pos c_60, if_pos c_107, if_pos c_116, if_pos c_143, if_neg c_148, if_neg c_168, ← e_18, ← e_21, ← e_49, ← e_68, ← e_100, ← e_126, ← e_133, ← e_136, ← e_152, if_true, if_false, Bool.false_eq_true, ↓reduceIte]) <;> (try simp only [mLisD, if_pos c_10, if_pos c_60, if_pos c_107, if_pos c_116, if_pos c_143, if_neg c_148, if_neg c_168, ← e_18, ← e_21, ← e_49, ← e_68, ← e_100, ← e_126, ← e_133, ← e_136, ← e_152, if_true, if_false, Bool.false_eq_true, ↓reduceIte]) <;> (try simp only [mLisE, mNx, if_pos c_10, if_pos c_60, if_pos c_107, if_pos c_116, if_pos c_143, if_neg c_148, if_neg c_168, ← e_18, ← e_21, ← e_49, ← e_68, ← e_100, ← e_126, ← e_133, ← e_136, ← e_152, if_true, if_false, Bool.false_eq_true, ↓reduceIte]) <;> (first | done | with_reducible rfl | rw [e_152])) d_Mod_list_201
                            · skip
                              exact absurd (by decide) c_3
                          · skip
                            exact absurd (by decide) c_178
                        · skip
                          have c_168 : (mSee s_152 = 44) := c_168
                          refine lv_iconst (v := 1) hx hb d_Mod_list_171 (by decide) ?_
                          refine lv_goto (tgt := 176) hx hb d_Mod_list_172 (by decide) ?_
                          refine lv_istore_n (lv' := [(2, .int 1), (0, .ref (bd 0)), (1, .int x)]) hx hb d_Mod_list_176 rfl hl (by decide) rfl (fun ls hl => ?_)
                          refine lv_iload_n hx hb d_Mod_list_177 rfl (lv_at hl 0 rfl) ?_
                          refine lv_if_eq (tgt := 2) hx hb d_Mod_list_178 (by decide) (fun c_178 => ?_) (fun c_178 => ?_)
                          · skip
                            exact absurd c_178 (by decide)
                          · skip
                            refine lv_aload_n hx hb d_Mod_list_181 rfl (lv_at hl 1 rfl) ?_
                            refine lv_dup hx hb d_Mod_list_182 rfl ?_
                            refine va_get (D := D) (ci := 4) (v := .int (gR s_152 3)) (C := "HeadDeskModel") (T := F_Mod) (N := 38) hx hb hts a_Mod hown hX.1 hP 0 rfl rfl 4 (by decide) (hts _ m_2_221) (fun _ h9 => h9) rfl d_Mod_list_183 ?_
                            refine lv_iconst (v := 1) hx hb d_Mod_list_186 (by decide) ?_
                            refine lv_iadd hx hb d_Mod_list_187 ?_
                            refine va_put (D := D) (ci := 4) (v := .int ((gR s_152 3) + 1)) (ty := .int) (C := "HeadDeskModel") (T := F_Mod) (N := 38) hx hb hts a_Mod t_Mod k_Mod n_Mod hown hX.1 hP hD hS 0 rfl rfl 4 (by decide) (hts _ m_2_221) (fun _ h9 => h9) rfl (by decide +kernel) rfl rfl (Nat.le_of_ble_eq_true rfl) d_Mod_list_188 (fun H locs hP hD hS => ?_)
                            have hP : va_P D vwCl (mdW bd ce (wR s_152 3 ((gR s_152 3) + 1))) H := hP
                            have hD : va_D A (mdW bd ce (wR s_152 3 ((gR s_152 3) + 1))) := hD
                            have i_188 : mInv (wR s_152 3 ((gR s_152 3) + 1)) := inv_nx (s := s_152) i_152 (see_lt c_168 (by decide))
                            obtain ⟨s_188, e_188⟩ : ∃ z : MS, z = wR s_152 3 ((gR s_152 3) + 1) := ⟨_, rfl⟩
                            have hP : va_P D vwCl (mdW bd ce s_188) H := by rw [e_188]; exact hP
                            have hD : va_D A (mdW bd ce s_188) := by rw [e_188]; exact hD
                            have i_188 : mInv s_188 := by rw [e_188]; exact i_188
                            have j_188 : wInv s_188 := by rw [e_188]; exact j_152
                            refine lv_aload_n hx hb d_Mod_list_191 rfl (lv_at hl 1 rfl) ?_
                            refine lv_bipush (v := 32) hx hb d_Mod_list_192 (by decide) ?_
                            refine hx_Vz (wr := []) (As := [.int 32]) (rest := []) hI (c_Mod_expect s_188 i_188 32 (by decide)) (cw_V (C := "HeadDeskModel") 1 hts m_3_120 m_3_122 ms_28 m_1_5 m_3_123 (by decide +kernel) ⟨by decide, by decide⟩) hX hA hP hD hS [0, 1, 2, 3, 4, 5, 6] [] rfl rfl (by decide) (by decide) (by decide) (va_recv hX.1 hP (ci := 4) (q0 := 0) rfl rfl) rfl hl.1 rfl (Nat.le_of_ble_eq_true rfl) d_Mod_list_194 ⟨Nat.zero_le _, Nat.zero_le _⟩ (fun H locs hP hD hS => ?_)
                            obtain ⟨s_194, e_194⟩ : ∃ z : MS, z = (mExp s_188 32).2 := ⟨_, rfl⟩
                            have i_194 : mInv s_194 := by rw [e_194]; exact inv_exp i_188 (by decide)
                            have j_194 : wInv s_194 := by rw [e_194]; exact wv_kq kq_exp (by decide) (by decide) j_188
                            have hP : va_P D vwCl (mdW bd ce s_194) H := by rw [e_194]; exact hP
                            have hD : va_D A (mdW bd ce s_194) := by rw [e_194]; exact hD
                            refine lv_pop hx hb d_Mod_list_197 rfl ?_
                            refine lv_goto (tgt := 2) hx hb d_Mod_list_198 (by decide) ?_
                            have a_1 : Ad s1 s_152 := by
                              rw [e_152]
                              refine Ad.tr ?_ (ad_kq kq_req (by decide) (by decide))
                              rw [e_136]
                              refine Ad.tr ?_ (Ad.reg (by decide) (by decide))
                              rw [e_133]
                              refine Ad.tr ?_ (ad_num i_126)
                              rw [e_126]
                              refine Ad.tr ?_ (ad_nx i_100 (see_lt c_116 (by decide)))
                              rw [e_100]
                              refine Ad.tr ?_ (Ad.reg (by decide) (by decide))
                              rw [e_68]
                              refine Ad.tr ?_ ad_wr
                              rw [e_49]
                              refine Ad.tr ?_ (Ad.reg (by decide) (by decide))
                              rw [e_21]
                              refine Ad.tr ?_ (ad_letL 300 _ i_18)
                              rw [e_18]
                              exact Ad.reg (by decide) (by decide)
                            exact ih s_194 H locs ls (by rw [e_194, e_188]; exact li_2 i_152 (see_lt c_168 (by decide)) a_1 (ad_exp (by have q := i_188; rw [e_188] at q; exact q) (by decide)) hj) i_194 (by rw [hF]; (try simp only [mLisL, mLisW, mLisA, if_pos c_10, if_pos c_60, if_pos c_107, if_pos c_116, if_pos c_143, if_neg c_148, if_pos c_168, ← e_18, ← e_21, ← e_49, ← e_68, ← e_100, ← e_126, ← e_133, ← e_136, ← e_152, ← e_188, ← e_194, if_true, if_false, Bool.false_eq_true, ↓reduceIte]) <;> (try simp only [mLisB, if_pos c_10, if_pos c_60, if_pos c_107, if_pos c_116, if_pos c_143, if_neg c_148, if_pos c_168, ← e_18, ← e_21, ← e_49, ← e_68, ← e_100, ← e_126, ← e_133, ← e_136, ← e_152, ← e_188, ← e_194, if_true, if_false, Bool.false_eq_true, ↓reduceIte]) <;> (try simp only [mLisC, mNx, if_pos c_10, if_pos c_60, if_pos c_107, if_pos c_116, if_pos c_143, if_neg c_148, if_pos c_168, ← e_18, ← e_21, ← e_49, ← e_68, ← e_100, ← e_126, ← e_133, ← e_136, ← e_152, ← e_188, ← e_194, if_true, if_false, Bool.false_eq_true, ↓reduceIte]) <;> (try simp only [mLisD, if_pos c_10, if_pos c_60, if_pos c_107, if_pos c_116, if_pos c_143, if_neg c_148, if_pos c_168, ← e_18, ← e_21, ← e_49, ← e_68, ← e_100, ← e_126, ← e_133, ← e_136, ← e_152, ← e_188, ← e_194, if_true, if_false, Bool.false_eq_true, ↓reduceIte]) <;> (try simp only [mLisE, mNx, if_pos c_10, if_pos c_60, if_pos c_107, if_pos c_116, if_pos c_143, if_neg c_148, if_pos c_168, ← e_18, ← e_21, ← e_49, ← e_68, ← e_100, ← e_126, ← e_133, ← e_136, ← e_152, ← e_188, ← e_194, if_true, if_false, Bool.false_eq_true, ↓reduceIte]) <;> (first | done | with_reducible rfl | rw [e_194])) hP hD hS (lv_sub hl [0, 1, 2] rfl)
                    · skip
                      have c_143 : ¬ (gR s_136 4 = 0) := c_143
                      exact hret H locs s_136 _ _ hP hD hS (by rw [hF]; (try simp only [mLisL, mLisW, mLisA, if_pos c_10, if_pos c_60, if_pos c_107, if_pos c_116, if_neg c_143, ← e_18, ← e_21, ← e_49, ← e_68, ← e_100, ← e_126, ← e_133, ← e_136, if_true, if_false, Bool.false_eq_true, ↓reduceIte]) <;> (try simp only [mLisB, if_pos c_10, if_pos c_60, if_pos c_107, if_pos c_116, if_neg c_143, ← e_18, ← e_21, ← e_49, ← e_68, ← e_100, ← e_126, ← e_133, ← e_136, if_true, if_false, Bool.false_eq_true, ↓reduceIte]) <;> (try simp only [mLisC, mNx, if_pos c_10, if_pos c_60, if_pos c_107, if_pos c_116, if_neg c_143, ← e_18, ← e_21, ← e_49, ← e_68, ← e_100, ← e_126, ← e_133, ← e_136, if_true, if_false, Bool.false_eq_true, ↓reduceIte]) <;> (try simp only [mLisD, if_pos c_10, if_pos c_60, if_pos c_107, if_pos c_116, if_neg c_143, ← e_18, ← e_21, ← e_49, ← e_68, ← e_100, ← e_126, ← e_133, ← e_136, if_true, if_false, Bool.false_eq_true, ↓reduceIte]) <;> (try simp only [mLisE, mNx, if_pos c_10, if_pos c_60, if_pos c_107, if_pos c_116, if_neg c_143, ← e_18, ← e_21, ← e_49, ← e_68, ← e_100, ← e_126, ← e_133, ← e_136, if_true, if_false, Bool.false_eq_true, ↓reduceIte]) <;> (first | done | with_reducible rfl | rw [e_136])) d_Mod_list_146
            have loop21 : ∀ (k : Nat) (s2 : MS) (H : Heap) (locs : List Loc) (ls : Array Slot), (gR s2 1).toInt ≤ (gR s2 3).toInt + (k : Int) → mInv s2 → s_21 = mLetL k s2 → va_P D vwCl (mdW bd ce s2) H → va_D A (mdW bd ce s2) → va_S A s.heap H locs → lv_has ls 3 [(2, .int 1), (0, .ref (bd 0)), (1, .int x)] → W p l e (rmD 7) s m ([.ref (bd 0), .int x] : List Value).toArray below meth c H locs 0 0 Q (F0 m 21 ls []) := by
              intro k
              induction k with
              | zero =>
                intro s2 H locs ls hj2 hq hG hP hD hS hl
                refine lv_aload_n hx hb d_Mod_list_21 rfl (lv_at hl 1 rfl) ?_
                refine hx_Vi (wr := []) (As := []) (rest := []) hI (c_Mod_see s2 hq ) (cw_V (C := "HeadDeskModel") 0 hts m_3_109 m_3_111 ms_26 m_1_5 m_3_112 (by decide +kernel) ⟨by decide, by decide⟩) hX hA hP hD hS [0, 1, 2, 3, 4, 5, 6] [] rfl rfl (by decide) (by decide) (by decide) (va_recv hX.1 hP (ci := 4) (q0 := 0) rfl rfl) rfl hl.1 rfl (Nat.le_of_ble_eq_true rfl) d_Mod_list_22 ⟨Nat.zero_le _, Nat.zero_le _⟩ (fun H locs hP hD hS => ?_)
                have hP : va_P D vwCl (mdW bd ce s2) H := hP
                have hD : va_D A (mdW bd ce s2) := hD
                refine hx_Sz (wr := [(bd 0, .inr (4, [.int (gR s2 0), .ref (bd 1), .int (gR s2 1), .int (gR s2 2), .int (gR s2 3), .int (gR s2 4), .int (gR s2 5), .int (gR s2 6), .int (gR s2 7), .int (gR s2 8), .int (gR s2 9), .int (gR s2 10), .int (gR s2 11), .int (gR s2 12), .int (gR s2 13), .int (gR s2 14), .int (gR s2 15), .int (gR s2 16), .int (gR s2 17), .int (gR s2 18), .ref (bd 2), .int (gR s2 19), .int (gR s2 20), .int (gR s2 21), .int (gR s2 22), .int (gR s2 23), .int (gR s2 24), .int (gR s2 25), .int (gR s2 26), .ref (bd 3), .ref (bd 4), .ref (bd 5), .ref (bd 6), .int (gR s2 27), .int (gR s2 28), .int (gR s2 29), .int (gR s2 30), .int (gR s2 31)])), (bd 1, .inl (ce 0, 300, .inl (gTp s2))), (bd 2, .inl (ce 1, 8, .inl (gMt s2))), (bd 3, .inl (ce 2, 150, .inl (gNf s2))), (bd 4, .inl (ce 3, 150, .inl (gNt s2))), (bd 5, .inl (ce 4, 18, .inl (gKp s2))), (bd 6, .inl (ce 5, 8, .inl (gKm s2)))]) (As := [.int (mSee s2)]) (rest := []) hI (c_Mod_isSmall (mSee s2)) (cw_S 1 hts m_3_149 m_3_150 m_1_5 m_3_151 (by decide +kernel) ⟨by decide, by decide⟩) hX hA hP hD hS [] [0, 1, 2, 3, 4, 5, 6] rfl rfl (by decide) (by decide) (by decide) rfl hl.1 rfl (Nat.le_of_ble_eq_true rfl) d_Mod_list_25 ⟨Nat.zero_le _, Nat.zero_le _⟩ (fun H locs hP hD hS => ?_)
                have hP : va_P D vwCl (mdW bd ce s2) H := hP.sub [0, 1, 2, 3, 4, 5, 6] rfl
                have hD : va_D A (mdW bd ce s2) := hD.sub [0, 1, 2, 3, 4, 5, 6] (by decide) rfl
                refine lv_if_eq (tgt := 44) hx hb d_Mod_list_28 (by decide) (fun c_28 => ?_) (fun c_28 => ?_)
                · skip
                  have c_28 : (isL (mSee s2)) = false := bI_0 c_28
                  exact k44 H locs ls (by rw [hG, mLetL]; exact hP) (by rw [hG, mLetL]; exact hD) hS (lv_sub hl [0, 1, 2] rfl)
                · skip
                  exact absurd (an_2 hj2) (see_lt rfl (isL_ne (bI_1 c_28)))
              | succ k ih =>
                intro s2 H locs ls hj2 hq hG hP hD hS hl
                refine lv_aload_n hx hb d_Mod_list_21 rfl (lv_at hl 1 rfl) ?_
                refine hx_Vi (wr := []) (As := []) (rest := []) hI (c_Mod_see s2 hq ) (cw_V (C := "HeadDeskModel") 0 hts m_3_109 m_3_111 ms_26 m_1_5 m_3_112 (by decide +kernel) ⟨by decide, by decide⟩) hX hA hP hD hS [0, 1, 2, 3, 4, 5, 6] [] rfl rfl (by decide) (by decide) (by decide) (va_recv hX.1 hP (ci := 4) (q0 := 0) rfl rfl) rfl hl.1 rfl (Nat.le_of_ble_eq_true rfl) d_Mod_list_22 ⟨Nat.zero_le _, Nat.zero_le _⟩ (fun H locs hP hD hS => ?_)
                have hP : va_P D vwCl (mdW bd ce s2) H := hP
                have hD : va_D A (mdW bd ce s2) := hD
                refine hx_Sz (wr := [(bd 0, .inr (4, [.int (gR s2 0), .ref (bd 1), .int (gR s2 1), .int (gR s2 2), .int (gR s2 3), .int (gR s2 4), .int (gR s2 5), .int (gR s2 6), .int (gR s2 7), .int (gR s2 8), .int (gR s2 9), .int (gR s2 10), .int (gR s2 11), .int (gR s2 12), .int (gR s2 13), .int (gR s2 14), .int (gR s2 15), .int (gR s2 16), .int (gR s2 17), .int (gR s2 18), .ref (bd 2), .int (gR s2 19), .int (gR s2 20), .int (gR s2 21), .int (gR s2 22), .int (gR s2 23), .int (gR s2 24), .int (gR s2 25), .int (gR s2 26), .ref (bd 3), .ref (bd 4), .ref (bd 5), .ref (bd 6), .int (gR s2 27), .int (gR s2 28), .int (gR s2 29), .int (gR s2 30), .int (gR s2 31)])), (bd 1, .inl (ce 0, 300, .inl (gTp s2))), (bd 2, .inl (ce 1, 8, .inl (gMt s2))), (bd 3, .inl (ce 2, 150, .inl (gNf s2))), (bd 4, .inl (ce 3, 150, .inl (gNt s2))), (bd 5, .inl (ce 4, 18, .inl (gKp s2))), (bd 6, .inl (ce 5, 8, .inl (gKm s2)))]) (As := [.int (mSee s2)]) (rest := []) hI (c_Mod_isSmall (mSee s2)) (cw_S 1 hts m_3_149 m_3_150 m_1_5 m_3_151 (by decide +kernel) ⟨by decide, by decide⟩) hX hA hP hD hS [] [0, 1, 2, 3, 4, 5, 6] rfl rfl (by decide) (by decide) (by decide) rfl hl.1 rfl (Nat.le_of_ble_eq_true rfl) d_Mod_list_25 ⟨Nat.zero_le _, Nat.zero_le _⟩ (fun H locs hP hD hS => ?_)
                have hP : va_P D vwCl (mdW bd ce s2) H := hP.sub [0, 1, 2, 3, 4, 5, 6] rfl
                have hD : va_D A (mdW bd ce s2) := hD.sub [0, 1, 2, 3, 4, 5, 6] (by decide) rfl
                refine lv_if_eq (tgt := 44) hx hb d_Mod_list_28 (by decide) (fun c_28 => ?_) (fun c_28 => ?_)
                · skip
                  have c_28 : (isL (mSee s2)) = false := bI_0 c_28
                  exact k44 H locs ls (by rw [hG, mLetL, if_neg (by rw [c_28]; decide)]; exact hP) (by rw [hG, mLetL, if_neg (by rw [c_28]; decide)]; exact hD) hS (lv_sub hl [0, 1, 2] rfl)
                · skip
                  have c_28 : (isL (mSee s2)) = true := bI_1 c_28
                  refine lv_aload_n hx hb d_Mod_list_31 rfl (lv_at hl 1 rfl) ?_
                  refine lv_dup hx hb d_Mod_list_32 rfl ?_
                  refine va_get (D := D) (ci := 4) (v := .int (gR s2 3)) (C := "HeadDeskModel") (T := F_Mod) (N := 38) hx hb hts a_Mod hown hX.1 hP 0 rfl rfl 4 (by decide) (hts _ m_2_221) (fun _ h9 => h9) rfl d_Mod_list_33 ?_
                  refine lv_iconst (v := 1) hx hb d_Mod_list_36 (by decide) ?_
                  refine lv_iadd hx hb d_Mod_list_37 ?_
                  refine va_put (D := D) (ci := 4) (v := .int ((gR s2 3) + 1)) (ty := .int) (C := "HeadDeskModel") (T := F_Mod) (N := 38) hx hb hts a_Mod t_Mod k_Mod n_Mod hown hX.1 hP hD hS 0 rfl rfl 4 (by decide) (hts _ m_2_221) (fun _ h9 => h9) rfl (by decide +kernel) rfl rfl (Nat.le_of_ble_eq_true rfl) d_Mod_list_38 (fun H locs hP hD hS => ?_)
                  have hP : va_P D vwCl (mdW bd ce (wR s2 3 ((gR s2 3) + 1))) H := hP
                  have hD : va_D A (mdW bd ce (wR s2 3 ((gR s2 3) + 1))) := hD
                  have i_38 : mInv (wR s2 3 ((gR s2 3) + 1)) := inv_nx (s := s2) hq (see_lt rfl (isL_ne c_28))
                  obtain ⟨s_38, e_38⟩ : ∃ z : MS, z = wR s2 3 ((gR s2 3) + 1) := ⟨_, rfl⟩
                  have hP : va_P D vwCl (mdW bd ce s_38) H := by rw [e_38]; exact hP
                  have hD : va_D A (mdW bd ce s_38) := by rw [e_38]; exact hD
                  have i_38 : mInv s_38 := by rw [e_38]; exact i_38
                  refine lv_goto (tgt := 21) hx hb d_Mod_list_41 (by decide) ?_
                  exact ih s_38 H locs ls (by rw [e_38]; exact an_1 hq (see_lt rfl (isL_ne c_28)) hj2) i_38 (by rw [hG, mLetL, if_pos c_28, mNx, ← e_38]) hP hD hS (lv_sub hl [0, 1, 2] rfl)
            exact loop21 300 s_18 H locs ls (an_0 i_18) i_18 e_21 hP hD hS (lv_sub hl [0, 1, 2] rfl)
    exact loop2 301  st H locs ls (li_0 hv) hv rfl hP hD hS (lv_sub hl [0, 1, 2] rfl)
  rw [hH, hlo] at goal
  exact goal
