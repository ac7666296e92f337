variable {l : Launch} {D : va_G} {bd : Nat → Nat} {ce : Nat → ClassId} {adK adV : Nat → Nat} {tF : Nat} {tys : List (ClassId × FieldType)}

set_option maxHeartbeats 4000000 in
set_option maxRecDepth 100000 in
theorem c_Mod_name (st : MS) (hv : mInv st)  : hx_Mz l D (tyM ce) adK adV tF (mdW bd ce) y_Mod_name w_Mod_name (rmD 2) [.ref (bd 0)] st ((mNam st).1) ((mNam st).2) := by
  refine hx_Mz.of (cc := b_Mod_name) (maxL := 3) (by decide) rfl (Nat.le_of_ble_eq_true rfl) ?_
  intro p e s m below meth c A Q ls hI hX hA hP hD hS hl hret
  obtain ⟨hx, hb, hml, hown, hts⟩ := id hI
  have hts : ∀ w ∈ aw, w.before ([.ref (bd 0)] : List Value).toArray s = true := fun w h => hts w (List.mem_cons_of_mem _ h)
  have hown : s.vm.findClass "HeadDeskModel" = some m.cls := hown
  have hI : hx_In p s m ([.ref (bd 0)] : List Value).toArray c b_Mod_name 3 "HeadDeskModel" aw := ⟨hx, hb, hml, hown, hts⟩
  have hP : va_P D vwCl (mdW bd ce st) s.heap := hP
  obtain ⟨H, hH⟩ : ∃ H, H = s.heap := ⟨_, rfl⟩
  obtain ⟨locs, hlo⟩ : ∃ locs : List Loc, locs = [] := ⟨_, rfl⟩
  have hS : va_S A s.heap H locs := by rw [hH, hlo]; exact hS
  have hP : va_P D vwCl (mdW bd ce st) H := by rw [hH]; exact hP
  have hl : lv_has ls 3 [(0, .ref (bd 0))] := hl
  have goal : W p l e (rmD 2) s m ([.ref (bd 0)] : List Value).toArray below meth c H locs 0 0 Q (F0 m 0 ls []) := by
    refine lv_aload_n hx hb d_Mod_name_0 rfl (lv_at hl 0 rfl) ?_
    refine va_get (D := D) (ci := 4) (v := .int (gR st 3)) (C := "HeadDeskModel") (T := F_Mod) (N := 38) hx hb hts a_Mod hown hX.1 hP 0 rfl rfl 4 (by decide) (hts _ m_2_221) (fun _ h9 => h9) rfl d_Mod_name_1 ?_
    refine lv_istore_n (lv' := [(1, .int (gR st 3)), (0, .ref (bd 0))]) hx hb d_Mod_name_4 rfl hl (by decide) rfl (fun ls hl => ?_)
    have loop5 : ∀ (k : Nat) (s1 : MS) (H : Heap) (locs : List Loc) (ls : Array Slot), (gR s1 1).toInt ≤ (gR s1 3).toInt + (k : Int) → 0 ≤ (gR st 3).toInt → (gR st 3).toInt ≤ (gR s1 3).toInt → 2 * (gR s1 26).toInt ≤ (gR st 3).toInt → mInv s1 → mNam st = mNamE (mLetL k s1) (gR st 3) → va_P D vwCl (mdW bd ce s1) H → va_D A (mdW bd ce s1) → va_S A s.heap H locs → lv_has ls 3 [(1, .int (gR st 3)), (0, .ref (bd 0))] → W p l e (rmD 2) s m ([.ref (bd 0)] : List Value).toArray below meth c H locs 0 0 Q (F0 m 5 ls []) := by
      intro k
      induction k with
      | zero =>
        intro s1 H locs ls hj h0 hge hnm hv hF hP hD hS hl
        refine lv_aload_n hx hb d_Mod_name_5 rfl (lv_at hl 1 rfl) ?_
        refine hx_Vi (wr := []) (As := []) (rest := []) hI (c_Mod_see s1 hv ) (cw_V (C := "HeadDeskModel") 0 hts m_3_109 m_3_111 ms_26 m_1_5 m_3_112 (by decide +kernel) ⟨by decide, by decide⟩) hX hA hP hD hS [0, 1, 2, 3, 4, 5, 6] [] rfl rfl (by decide) (by decide) (by decide) (va_recv hX.1 hP (ci := 4) (q0 := 0) rfl rfl) rfl hl.1 rfl (Nat.le_of_ble_eq_true rfl) d_Mod_name_6 ⟨Nat.zero_le _, Nat.zero_le _⟩ (fun H locs hP hD hS => ?_)
        have hP : va_P D vwCl (mdW bd ce s1) H := hP
        have hD : va_D A (mdW bd ce s1) := hD
        refine hx_Sz (wr := [(bd 0, .inr (4, [.int (gR s1 0), .ref (bd 1), .int (gR s1 1), .int (gR s1 2), .int (gR s1 3), .int (gR s1 4), .int (gR s1 5), .int (gR s1 6), .int (gR s1 7), .int (gR s1 8), .int (gR s1 9), .int (gR s1 10), .int (gR s1 11), .int (gR s1 12), .int (gR s1 13), .int (gR s1 14), .int (gR s1 15), .int (gR s1 16), .int (gR s1 17), .int (gR s1 18), .ref (bd 2), .int (gR s1 19), .int (gR s1 20), .int (gR s1 21), .int (gR s1 22), .int (gR s1 23), .int (gR s1 24), .int (gR s1 25), .int (gR s1 26), .ref (bd 3), .ref (bd 4), .ref (bd 5), .ref (bd 6), .int (gR s1 27), .int (gR s1 28), .int (gR s1 29), .int (gR s1 30), .int (gR s1 31)])), (bd 1, .inl (ce 0, 300, .inl (gTp s1))), (bd 2, .inl (ce 1, 8, .inl (gMt s1))), (bd 3, .inl (ce 2, 150, .inl (gNf s1))), (bd 4, .inl (ce 3, 150, .inl (gNt s1))), (bd 5, .inl (ce 4, 18, .inl (gKp s1))), (bd 6, .inl (ce 5, 8, .inl (gKm s1)))]) (As := [.int (mSee s1)]) (rest := []) hI (c_Mod_isSmall (mSee s1)) (cw_S 1 hts m_3_149 m_3_150 m_1_5 m_3_151 (by decide +kernel) ⟨by decide, by decide⟩) hX hA hP hD hS [] [0, 1, 2, 3, 4, 5, 6] rfl rfl (by decide) (by decide) (by decide) rfl hl.1 rfl (Nat.le_of_ble_eq_true rfl) d_Mod_name_9 ⟨Nat.zero_le _, Nat.zero_le _⟩ (fun H locs hP hD hS => ?_)
        have hP : va_P D vwCl (mdW bd ce s1) H := hP.sub [0, 1, 2, 3, 4, 5, 6] rfl
        have hD : va_D A (mdW bd ce s1) := hD.sub [0, 1, 2, 3, 4, 5, 6] (by decide) rfl
        refine lv_if_eq (tgt := 28) hx hb d_Mod_name_12 (by decide) (fun c_12 => ?_) (fun c_12 => ?_)
        · skip
          have c_12 : (isL (mSee s1)) = false := bI_0 c_12
          refine lv_aload_n hx hb d_Mod_name_28 rfl (lv_at hl 1 rfl) ?_
          refine va_get (D := D) (ci := 4) (v := .int (gR s1 3)) (C := "HeadDeskModel") (T := F_Mod) (N := 38) hx hb hts a_Mod hown hX.1 hP 0 rfl rfl 4 (by decide) (hts _ m_2_221) (fun _ h9 => h9) rfl d_Mod_name_29 ?_
          refine lv_iload_n hx hb d_Mod_name_32 rfl (lv_at hl 0 rfl) ?_
          refine lv_icmp_ne (tgt := 45) hx hb d_Mod_name_33 (by decide) (fun c_33 => ?_) (fun c_33 => ?_)
          · skip
            have c_33 : ¬ (gR s1 3 = gR st 3) := c_33
            refine lv_aload_n hx hb d_Mod_name_45 rfl (lv_at hl 1 rfl) ?_
            refine va_get (D := D) (ci := 4) (v := .int (gR s1 3)) (C := "HeadDeskModel") (T := F_Mod) (N := 38) hx hb hts a_Mod hown hX.1 hP 0 rfl rfl 4 (by decide) (hts _ m_2_221) (fun _ h9 => h9) rfl d_Mod_name_46 ?_
            refine lv_iload_n hx hb d_Mod_name_49 rfl (lv_at hl 0 rfl) ?_
            refine lv_isub hx hb d_Mod_name_50 ?_
            refine lv_bipush (v := 20) hx hb d_Mod_name_51 (by decide) ?_
            refine lv_icmp_le (tgt := 62) hx hb d_Mod_name_53 (by decide) (fun c_53 => ?_) (fun c_53 => ?_)
            · skip
              have c_53 : ((gR s1 3) - (gR st 3) ≤ 20) := c_53
              refine lv_aload_n hx hb d_Mod_name_62 rfl (lv_at hl 1 rfl) ?_
              refine hx_Vi (wr := []) (As := []) (rest := []) hI (c_Mod_see s1 hv ) (cw_V (C := "HeadDeskModel") 0 hts m_3_109 m_3_111 ms_26 m_1_5 m_3_112 (by decide +kernel) ⟨by decide, by decide⟩) hX hA hP hD hS [0, 1, 2, 3, 4, 5, 6] [] rfl rfl (by decide) (by decide) (by decide) (va_recv hX.1 hP (ci := 4) (q0 := 0) rfl rfl) rfl hl.1 rfl (Nat.le_of_ble_eq_true rfl) d_Mod_name_63 ⟨Nat.zero_le _, Nat.zero_le _⟩ (fun H locs hP hD hS => ?_)
              have hP : va_P D vwCl (mdW bd ce s1) H := hP
              have hD : va_D A (mdW bd ce s1) := hD
              refine lv_bipush (v := 58) hx hb d_Mod_name_66 (by decide) ?_
              refine lv_icmp_eq (tgt := 80) hx hb d_Mod_name_68 (by decide) (fun c_68 => ?_) (fun c_68 => ?_)
              · skip
                have c_68 : (mSee s1 = 58) := c_68
                refine lv_iconst (v := 0) hx hb d_Mod_name_80 (by decide) ?_
                refine lv_istore_n (lv' := [(2, .int 0), (1, .int (gR st 3)), (0, .ref (bd 0))]) hx hb d_Mod_name_81 rfl hl (by decide) rfl (fun ls hl => ?_)
                have loop82 : ∀ (k : Nat) (j : Nat) (H : Heap) (locs : List Loc) (ls : Array Slot), j + k = (gR s1 26).toNatClampNeg → mNam st = (if mDup s1 (gR st 3) k j = true then (false, mWr s1 (gR st 3)) else mNamG (mAddN s1 (gR st 3))) → va_P D vwCl (mdW bd ce s1) H → va_D A (mdW bd ce s1) → va_S A s.heap H locs → lv_has ls 3 [(2, .int (nI j)), (1, .int (gR st 3)), (0, .ref (bd 0))] → W p l e (rmD 2) s m ([.ref (bd 0)] : List Value).toArray below meth c H locs 0 0 Q (F0 m 82 ls []) := by
                  intro k
                  induction k with
                  | zero =>
                    intro j H locs ls hj2 hF hP hD hS hl
                    refine lv_iload_n hx hb d_Mod_name_82 rfl (lv_at hl 0 rfl) ?_
                    refine lv_aload_n hx hb d_Mod_name_83 rfl (lv_at hl 2 rfl) ?_
                    refine va_get (D := D) (ci := 4) (v := .int (gR s1 26)) (C := "HeadDeskModel") (T := F_Mod) (N := 38) hx hb hts a_Mod hown hX.1 hP 0 rfl rfl 28 (by decide) (hts _ m_3_5) (fun _ h9 => h9) rfl d_Mod_name_84 ?_
                    refine lv_icmp_ge (tgt := 126) hx hb d_Mod_name_87 (by decide) (fun c_87 => ?_) (fun c_87 => ?_)
                    · skip
                      have c_87 : (gR s1 26 ≤ nI j) := c_87
                      refine lv_aload_n hx hb d_Mod_name_126 rfl (lv_at hl 2 rfl) ?_
                      refine va_get (D := D) (ci := 4) (v := .ref (bd 3)) (C := "HeadDeskModel") (T := F_Mod) (N := 38) hx hb hts a_Mod hown hX.1 hP 0 rfl rfl 29 (by decide) (hts _ m_3_6) (fun _ h9 => h9) rfl d_Mod_name_127 ?_
                      refine lv_aload_n hx hb d_Mod_name_130 rfl (lv_at hl 2 rfl) ?_
                      refine va_get (D := D) (ci := 4) (v := .int (gR s1 26)) (C := "HeadDeskModel") (T := F_Mod) (N := 38) hx hb hts a_Mod hown hX.1 hP 0 rfl rfl 28 (by decide) (hts _ m_3_5) (fun _ h9 => h9) rfl d_Mod_name_131 ?_
                      refine lv_iload_n hx hb d_Mod_name_134 rfl (lv_at hl 1 rfl) ?_
                      refine va_iast hx hb hX.1 hP hD hS 3 2 rfl rfl (nm_st hv hge hnm c_33) d_Mod_name_135 (fun H locs hP hD hS => ?_)
                      have hP : va_P D vwCl (mdW bd ce (wNf s1 (upd (gNf s1) (gR s1 26).toNatClampNeg (gR st 3)))) H := hP
                      have hD : va_D A (mdW bd ce (wNf s1 (upd (gNf s1) (gR s1 26).toNatClampNeg (gR st 3)))) := hD
                      refine lv_aload_n hx hb d_Mod_name_136 rfl (lv_at hl 2 rfl) ?_
                      refine va_get (D := D) (ci := 4) (v := .ref (bd 4)) (C := "HeadDeskModel") (T := F_Mod) (N := 38) hx hb hts a_Mod hown hX.1 hP 0 rfl rfl 30 (by decide) (hts _ m_3_7) (fun _ h9 => h9) rfl d_Mod_name_137 ?_
                      refine lv_aload_n hx hb d_Mod_name_140 rfl (lv_at hl 2 rfl) ?_
                      refine va_get (D := D) (ci := 4) (v := .int (gR s1 26)) (C := "HeadDeskModel") (T := F_Mod) (N := 38) hx hb hts a_Mod hown hX.1 hP 0 rfl rfl 28 (by decide) (hts _ m_3_5) (fun _ h9 => h9) rfl d_Mod_name_141 ?_
                      refine lv_aload_n hx hb d_Mod_name_144 rfl (lv_at hl 2 rfl) ?_
                      refine va_get (D := D) (ci := 4) (v := .int (gR s1 3)) (C := "HeadDeskModel") (T := F_Mod) (N := 38) hx hb hts a_Mod hown hX.1 hP 0 rfl rfl 4 (by decide) (hts _ m_2_221) (fun _ h9 => h9) rfl d_Mod_name_145 ?_
                      refine va_iast hx hb hX.1 hP hD hS 4 3 rfl rfl (nm_st hv hge hnm c_33) d_Mod_name_148 (fun H locs hP hD hS => ?_)
                      have hP : va_P D vwCl (mdW bd ce (wNt (wNf s1 (upd (gNf s1) (gR s1 26).toNatClampNeg (gR st 3))) (upd (gNt s1) (gR s1 26).toNatClampNeg (gR s1 3)))) H := hP
                      have hD : va_D A (mdW bd ce (wNt (wNf s1 (upd (gNf s1) (gR s1 26).toNatClampNeg (gR st 3))) (upd (gNt s1) (gR s1 26).toNatClampNeg (gR s1 3)))) := hD
                      refine lv_aload_n hx hb d_Mod_name_149 rfl (lv_at hl 2 rfl) ?_
                      refine lv_dup hx hb d_Mod_name_150 rfl ?_
                      refine va_get (D := D) (ci := 4) (v := .int (gR s1 26)) (C := "HeadDeskModel") (T := F_Mod) (N := 38) hx hb hts a_Mod hown hX.1 hP 0 rfl rfl 28 (by decide) (hts _ m_3_5) (fun _ h9 => h9) rfl d_Mod_name_151 ?_
                      refine lv_iconst (v := 1) hx hb d_Mod_name_154 (by decide) ?_
                      refine lv_iadd hx hb d_Mod_name_155 ?_
                      refine va_put (D := D) (ci := 4) (v := .int ((gR s1 26) + 1)) (ty := .int) (C := "HeadDeskModel") (T := F_Mod) (N := 38) hx hb hts a_Mod t_Mod k_Mod n_Mod hown hX.1 hP hD hS 0 rfl rfl 28 (by decide) (hts _ m_3_5) (fun _ h9 => h9) rfl (by decide +kernel) rfl rfl (Nat.le_of_ble_eq_true rfl) d_Mod_name_156 (fun H locs hP hD hS => ?_)
                      have hP : va_P D vwCl (mdW bd ce (wR (wNt (wNf s1 (upd (gNf s1) (gR s1 26).toNatClampNeg (gR st 3))) (upd (gNt s1) (gR s1 26).toNatClampNeg (gR s1 3))) 26 ((gR s1 26) + 1))) H := hP
                      have hD : va_D A (mdW bd ce (wR (wNt (wNf s1 (upd (gNf s1) (gR s1 26).toNatClampNeg (gR st 3))) (upd (gNt s1) (gR s1 26).toNatClampNeg (gR s1 3))) 26 ((gR s1 26) + 1))) := hD
                      obtain ⟨s_156, e_156⟩ : ∃ z : MS, z = wR (wNt (wNf s1 (upd (gNf s1) (gR s1 26).toNatClampNeg (gR st 3))) (upd (gNt s1) (gR s1 26).toNatClampNeg (gR s1 3))) 26 ((gR s1 26) + 1) := ⟨_, rfl⟩
                      have hP : va_P D vwCl (mdW bd ce s_156) H := by rw [e_156]; exact hP
                      have hD : va_D A (mdW bd ce s_156) := by rw [e_156]; exact hD
                      refine lv_aload_n hx hb d_Mod_name_159 rfl (lv_at hl 2 rfl) ?_
                      refine lv_dup hx hb d_Mod_name_160 rfl ?_
                      refine va_get (D := D) (ci := 4) (v := .int (gR s_156 3)) (C := "HeadDeskModel") (T := F_Mod) (N := 38) hx hb hts a_Mod hown hX.1 hP 0 rfl rfl 4 (by decide) (hts _ m_2_221) (fun _ h9 => h9) rfl d_Mod_name_161 ?_
                      refine lv_iconst (v := 1) hx hb d_Mod_name_164 (by decide) ?_
                      refine lv_iadd hx hb d_Mod_name_165 ?_
                      refine va_put (D := D) (ci := 4) (v := .int ((gR s_156 3) + 1)) (ty := .int) (C := "HeadDeskModel") (T := F_Mod) (N := 38) hx hb hts a_Mod t_Mod k_Mod n_Mod hown hX.1 hP hD hS 0 rfl rfl 4 (by decide) (hts _ m_2_221) (fun _ h9 => h9) rfl (by decide +kernel) rfl rfl (Nat.le_of_ble_eq_true rfl) d_Mod_name_166 (fun H locs hP hD hS => ?_)
                      have hP : va_P D vwCl (mdW bd ce (wR s_156 3 ((gR s_156 3) + 1))) H := hP
                      have hD : va_D A (mdW bd ce (wR s_156 3 ((gR s_156 3) + 1))) := hD
                      have i_166 : mInv (wR s_156 3 ((gR s_156 3) + 1)) := by rw [e_156]; exact inv_add hv h0 hge hnm c_33 (see_lt c_68 (by decide))
                      obtain ⟨s_166, e_166⟩ : ∃ z : MS, z = wR s_156 3 ((gR s_156 3) + 1) := ⟨_, rfl⟩
                      have hP : va_P D vwCl (mdW bd ce s_166) H := by rw [e_166]; exact hP
                      have hD : va_D A (mdW bd ce s_166) := by rw [e_166]; exact hD
                      have i_166 : mInv s_166 := by rw [e_166]; exact i_166
                      refine lv_aload_n hx hb d_Mod_name_169 rfl (lv_at hl 2 rfl) ?_
                      refine hx_Vi (wr := []) (As := []) (rest := []) hI (c_Mod_see s_166 i_166 ) (cw_V (C := "HeadDeskModel") 0 hts m_3_109 m_3_111 ms_26 m_1_5 m_3_112 (by decide +kernel) ⟨by decide, by decide⟩) hX hA hP hD hS [0, 1, 2, 3, 4, 5, 6] [] rfl rfl (by decide) (by decide) (by decide) (va_recv hX.1 hP (ci := 4) (q0 := 0) rfl rfl) rfl hl.1 rfl (Nat.le_of_ble_eq_true rfl) d_Mod_name_170 ⟨Nat.zero_le _, Nat.zero_le _⟩ (fun H locs hP hD hS => ?_)
                      have hP : va_P D vwCl (mdW bd ce s_166) H := hP
                      have hD : va_D A (mdW bd ce s_166) := hD
                      refine lv_bipush (v := 32) hx hb d_Mod_name_173 (by decide) ?_
                      refine lv_icmp_ne (tgt := 188) hx hb d_Mod_name_175 (by decide) (fun c_175 => ?_) (fun c_175 => ?_)
                      · skip
                        have c_175 : ¬ (mSee s_166 = 32) := c_175
                        refine lv_iconst (v := 1) hx hb d_Mod_name_188 (by decide) ?_
                        exact hret H locs s_166 true _ _ hP hD hS (pr2 (by rw [hF]; (try simp only [mDup, if_pos c_87, if_neg c_175, ← e_156, ← e_166, if_true, if_false, Bool.false_eq_true, ↓reduceIte]) <;> (try simp only [mAddN, if_pos c_87, if_neg c_175, ← e_156, ← e_166, if_true, if_false, Bool.false_eq_true, ↓reduceIte]) <;> (try simp only [mNx, if_pos c_87, if_neg c_175, ← e_156, ← e_166, if_true, if_false, Bool.false_eq_true, ↓reduceIte]) <;> (try simp only [mNamG, if_pos c_87, if_neg c_175, ← e_156, ← e_166, if_true, if_false, Bool.false_eq_true, ↓reduceIte]) <;> (first | done | with_reducible rfl | rw [e_166]))) d_Mod_name_189
                      · skip
                        have c_175 : (mSee s_166 = 32) := c_175
                        refine lv_aload_n hx hb d_Mod_name_178 rfl (lv_at hl 2 rfl) ?_
                        refine lv_dup hx hb d_Mod_name_179 rfl ?_
                        refine va_get (D := D) (ci := 4) (v := .int (gR s_166 3)) (C := "HeadDeskModel") (T := F_Mod) (N := 38) hx hb hts a_Mod hown hX.1 hP 0 rfl rfl 4 (by decide) (hts _ m_2_221) (fun _ h9 => h9) rfl d_Mod_name_180 ?_
                        refine lv_iconst (v := 1) hx hb d_Mod_name_183 (by decide) ?_
                        refine lv_iadd hx hb d_Mod_name_184 ?_
                        refine va_put (D := D) (ci := 4) (v := .int ((gR s_166 3) + 1)) (ty := .int) (C := "HeadDeskModel") (T := F_Mod) (N := 38) hx hb hts a_Mod t_Mod k_Mod n_Mod hown hX.1 hP hD hS 0 rfl rfl 4 (by decide) (hts _ m_2_221) (fun _ h9 => h9) rfl (by decide +kernel) rfl rfl (Nat.le_of_ble_eq_true rfl) d_Mod_name_185 (fun H locs hP hD hS => ?_)
                        have hP : va_P D vwCl (mdW bd ce (wR s_166 3 ((gR s_166 3) + 1))) H := hP
                        have hD : va_D A (mdW bd ce (wR s_166 3 ((gR s_166 3) + 1))) := hD
                        have i_185 : mInv (wR s_166 3 ((gR s_166 3) + 1)) := inv_nx (s := s_166) i_166 (see_lt c_175 (by decide))
                        obtain ⟨s_185, e_185⟩ : ∃ z : MS, z = wR s_166 3 ((gR s_166 3) + 1) := ⟨_, rfl⟩
                        have hP : va_P D vwCl (mdW bd ce s_185) H := by rw [e_185]; exact hP
                        have hD : va_D A (mdW bd ce s_185) := by rw [e_185]; exact hD
                        have i_185 : mInv s_185 := by rw [e_185]; exact i_185
                        refine lv_iconst (v := 1) hx hb d_Mod_name_188 (by decide) ?_
                        exact hret H locs s_185 true _ _ hP hD hS (pr2 (by rw [hF]; (try simp only [mDup, if_pos c_87, if_pos c_175, ← e_156, ← e_166, ← e_185, if_true, if_false, Bool.false_eq_true, ↓reduceIte]) <;> (try simp only [mAddN, if_pos c_87, if_pos c_175, ← e_156, ← e_166, ← e_185, if_true, if_false, Bool.false_eq_true, ↓reduceIte]) <;> (try simp only [mNx, if_pos c_87, if_pos c_175, ← e_156, ← e_166, ← e_185, if_true, if_false, Bool.false_eq_true, ↓reduceIte]) <;> (try simp only [mNamG, if_pos c_87, if_pos c_175, ← e_156, ← e_166, ← e_185, if_true, if_false, Bool.false_eq_true, ↓reduceIte]) <;> (first | done | with_reducible rfl | rw [e_185]))) d_Mod_name_189
                    · skip
                      exact absurd (nI_cyes (by omega) (by have := cl_le (gR s1 26); omega)) c_87
                  | succ k ih =>
                    intro j H locs ls hj2 hF hP hD hS hl
                    have hjb := (nm_lt hv (show j < (gR s1 26).toNatClampNeg by omega)).1
                    refine lv_iload_n hx hb d_Mod_name_82 rfl (lv_at hl 0 rfl) ?_
                    refine lv_aload_n hx hb d_Mod_name_83 rfl (lv_at hl 2 rfl) ?_
                    refine va_get (D := D) (ci := 4) (v := .int (gR s1 26)) (C := "HeadDeskModel") (T := F_Mod) (N := 38) hx hb hts a_Mod hown hX.1 hP 0 rfl rfl 28 (by decide) (hts _ m_3_5) (fun _ h9 => h9) rfl d_Mod_name_84 ?_
                    refine lv_icmp_ge (tgt := 126) hx hb d_Mod_name_87 (by decide) (fun c_87 => ?_) (fun c_87 => ?_)
                    · skip
                      exact absurd c_87 (nI_cno (by omega))
                    · skip
                      have c_87 : ¬ (gR s1 26 ≤ nI j) := c_87
                      refine lv_aload_n hx hb d_Mod_name_90 rfl (lv_at hl 2 rfl) ?_
                      refine lv_aload_n hx hb d_Mod_name_91 rfl (lv_at hl 2 rfl) ?_
                      refine va_get (D := D) (ci := 4) (v := .ref (bd 3)) (C := "HeadDeskModel") (T := F_Mod) (N := 38) hx hb hts a_Mod hown hX.1 hP 0 rfl rfl 29 (by decide) (hts _ m_3_6) (fun _ h9 => h9) rfl d_Mod_name_92 ?_
                      refine lv_iload_n hx hb d_Mod_name_95 rfl (lv_at hl 0 rfl) ?_
                      refine va_iald hx hb hX.1 hP 3 2 rfl rfl (vp_in_nI (nm_lt hv (by omega)).1 (by decide)) d_Mod_name_96 ?_
                      refine hx_top (v := (gNf s1) j) (by first | rfl | (rw [nI_clamp (by omega)])) ?_
                      refine lv_aload_n hx hb d_Mod_name_97 rfl (lv_at hl 2 rfl) ?_
                      refine va_get (D := D) (ci := 4) (v := .ref (bd 4)) (C := "HeadDeskModel") (T := F_Mod) (N := 38) hx hb hts a_Mod hown hX.1 hP 0 rfl rfl 30 (by decide) (hts _ m_3_7) (fun _ h9 => h9) rfl d_Mod_name_98 ?_
                      refine lv_iload_n hx hb d_Mod_name_101 rfl (lv_at hl 0 rfl) ?_
                      refine va_iald hx hb hX.1 hP 4 3 rfl rfl (vp_in_nI (nm_lt hv (by omega)).1 (by decide)) d_Mod_name_102 ?_
                      refine hx_top (v := (gNt s1) j) (by first | rfl | (rw [nI_clamp (by omega)])) ?_
                      refine lv_iload_n hx hb d_Mod_name_103 rfl (lv_at hl 1 rfl) ?_
                      refine lv_aload_n hx hb d_Mod_name_104 rfl (lv_at hl 2 rfl) ?_
                      refine va_get (D := D) (ci := 4) (v := .int (gR s1 3)) (C := "HeadDeskModel") (T := F_Mod) (N := 38) hx hb hts a_Mod hown hX.1 hP 0 rfl rfl 4 (by decide) (hts _ m_2_221) (fun _ h9 => h9) rfl d_Mod_name_105 ?_
                      refine hx_Vz (wr := []) (As := [.int ((gNf s1) j), .int ((gNt s1) j), .int (gR st 3), .int (gR s1 3)]) (rest := []) hI (c_Mod_isSame s1 hv ((gNf s1) j) ((gNt s1) j) (gR st 3) (gR s1 3) (sp_nm hv (nm_lt hv (by omega)).2) (sp_at hv h0 hge)) (cw_V (C := "HeadDeskModel") 4 hts m_3_152 m_3_154 ms_34 m_1_5 m_3_155 (by decide +kernel) ⟨by decide, by decide⟩) hX hA hP hD hS [0, 1, 2, 3, 4, 5, 6] [] rfl rfl (by decide) (by decide) (by decide) (va_recv hX.1 hP (ci := 4) (q0 := 0) rfl rfl) rfl hl.1 rfl (Nat.le_of_ble_eq_true rfl) d_Mod_name_108 ⟨Nat.zero_le _, Nat.zero_le _⟩ (fun H locs hP hD hS => ?_)
                      have hP : va_P D vwCl (mdW bd ce s1) H := hP
                      have hD : va_D A (mdW bd ce s1) := hD
                      refine lv_if_eq (tgt := 120) hx hb d_Mod_name_111 (by decide) (fun c_111 => ?_) (fun c_111 => ?_)
                      · skip
                        have c_111 : (mSame (gTp s1) ((gNf s1) j) ((gNt s1) j) (gR st 3) (gR s1 3)) = false := bI_0 c_111
                        refine lv_iinc (v := nI (j + 1)) (lv' := [(2, .int (nI (j + 1))), (1, .int (gR st 3)), (0, .ref (bd 0))]) hx hb d_Mod_name_120 hl (k := 0) rfl (by rw [nI_succ]; rfl) (by decide) rfl (fun ls hl => ?_)
                        refine lv_goto (tgt := 82) hx hb d_Mod_name_123 (by decide) ?_
                        exact ih (j + 1) H locs ls (by omega) (by rw [hF, mDup, c_111]; rfl) hP hD hS (lv_sub hl [0, 1, 2] rfl)
                      · skip
                        have c_111 : (mSame (gTp s1) ((gNf s1) j) ((gNt s1) j) (gR st 3) (gR s1 3)) = true := bI_1 c_111
                        refine lv_aload_n hx hb d_Mod_name_114 rfl (lv_at hl 2 rfl) ?_
                        refine lv_iload_n hx hb d_Mod_name_115 rfl (lv_at hl 1 rfl) ?_
                        refine hx_Vz (wr := []) (As := [.int (gR st 3)]) (rest := []) hI (c_Mod_wrong s1 hv (gR st 3)) (cw_V (C := "HeadDeskModel") 1 hts m_3_124 m_3_126 ms_29 m_1_5 m_3_127 (by decide +kernel) ⟨by decide, by decide⟩) hX hA hP hD hS [0, 1, 2, 3, 4, 5, 6] [] rfl rfl (by decide) (by decide) (by decide) (va_recv hX.1 hP (ci := 4) (q0 := 0) rfl rfl) rfl hl.1 rfl (Nat.le_of_ble_eq_true rfl) d_Mod_name_116 ⟨Nat.zero_le _, Nat.zero_le _⟩ (fun H locs hP hD hS => ?_)
                        obtain ⟨s_116, e_116⟩ : ∃ z : MS, z = mWr s1 (gR st 3) := ⟨_, rfl⟩
                        have i_116 : mInv s_116 := by rw [e_116]; exact inv_wr hv
                        have hP : va_P D vwCl (mdW bd ce s_116) H := by rw [e_116]; exact hP
                        have hD : va_D A (mdW bd ce s_116) := by rw [e_116]; exact hD
                        exact hret H locs s_116 false _ _ hP hD hS (pr2 (by rw [hF]; (try simp only [mDup, if_neg c_87, c_111, ← e_116, if_true, if_false, Bool.false_eq_true, ↓reduceIte]) <;> (try simp only [mAddN, if_neg c_87, c_111, ← e_116, if_true, if_false, Bool.false_eq_true, ↓reduceIte]) <;> (try simp only [mNx, if_neg c_87, c_111, ← e_116, if_true, if_false, Bool.false_eq_true, ↓reduceIte]) <;> (try simp only [mNamG, if_neg c_87, c_111, ← e_116, if_true, if_false, Bool.false_eq_true, ↓reduceIte]) <;> (first | done | with_reducible rfl | rw [e_116]))) d_Mod_name_119
                exact loop82 ((gR s1 26).toNatClampNeg) 0  H locs ls (by omega) (by rw [hF]; (try simp only [mLetL, c_12, if_neg c_33, if_pos c_53, if_pos c_68, if_true, if_false, Bool.false_eq_true, ↓reduceIte]) <;> (try simp only [mNamE, c_12, if_neg c_33, if_pos c_53, if_pos c_68, if_true, if_false, Bool.false_eq_true, ↓reduceIte]) <;> (try simp only [mNamF, c_12, if_neg c_33, if_pos c_53, if_pos c_68, if_true, if_false, Bool.false_eq_true, ↓reduceIte]) <;> (try simp only [mNamG, c_12, if_neg c_33, if_pos c_53, if_pos c_68, if_true, if_false, Bool.false_eq_true, ↓reduceIte]) <;> (first | done | with_reducible rfl)) hP hD hS (lv_sub hl [0, 1, 2] rfl)
              · skip
                have c_68 : ¬ (mSee s1 = 58) := c_68
                refine lv_aload_n hx hb d_Mod_name_71 rfl (lv_at hl 1 rfl) ?_
                refine lv_aload_n hx hb d_Mod_name_72 rfl (lv_at hl 1 rfl) ?_
                refine va_get (D := D) (ci := 4) (v := .int (gR s1 3)) (C := "HeadDeskModel") (T := F_Mod) (N := 38) hx hb hts a_Mod hown hX.1 hP 0 rfl rfl 4 (by decide) (hts _ m_2_221) (fun _ h9 => h9) rfl d_Mod_name_73 ?_
                refine hx_Vz (wr := []) (As := [.int (gR s1 3)]) (rest := []) hI (c_Mod_wrong s1 hv (gR s1 3)) (cw_V (C := "HeadDeskModel") 1 hts m_3_124 m_3_126 ms_29 m_1_5 m_3_127 (by decide +kernel) ⟨by decide, by decide⟩) hX hA hP hD hS [0, 1, 2, 3, 4, 5, 6] [] rfl rfl (by decide) (by decide) (by decide) (va_recv hX.1 hP (ci := 4) (q0 := 0) rfl rfl) rfl hl.1 rfl (Nat.le_of_ble_eq_true rfl) d_Mod_name_76 ⟨Nat.zero_le _, Nat.zero_le _⟩ (fun H locs hP hD hS => ?_)
                obtain ⟨s_76, e_76⟩ : ∃ z : MS, z = mWr s1 (gR s1 3) := ⟨_, rfl⟩
                have i_76 : mInv s_76 := by rw [e_76]; exact inv_wr hv
                have hP : va_P D vwCl (mdW bd ce s_76) H := by rw [e_76]; exact hP
                have hD : va_D A (mdW bd ce s_76) := by rw [e_76]; exact hD
                exact hret H locs s_76 false _ _ hP hD hS (pr2 (by rw [hF]; (try simp only [mLetL, c_12, if_neg c_33, if_pos c_53, if_neg c_68, ← e_76, if_true, if_false, Bool.false_eq_true, ↓reduceIte]) <;> (try simp only [mNamE, c_12, if_neg c_33, if_pos c_53, if_neg c_68, ← e_76, if_true, if_false, Bool.false_eq_true, ↓reduceIte]) <;> (try simp only [mNamF, c_12, if_neg c_33, if_pos c_53, if_neg c_68, ← e_76, if_true, if_false, Bool.false_eq_true, ↓reduceIte]) <;> (try simp only [mNamG, c_12, if_neg c_33, if_pos c_53, if_neg c_68, ← e_76, if_true, if_false, Bool.false_eq_true, ↓reduceIte]) <;> (first | done | with_reducible rfl | rw [e_76]))) d_Mod_name_79
            · skip
              have c_53 : ¬ ((gR s1 3) - (gR st 3) ≤ 20) := c_53
              refine lv_aload_n hx hb d_Mod_name_56 rfl (lv_at hl 1 rfl) ?_
              refine lv_iload_n hx hb d_Mod_name_57 rfl (lv_at hl 0 rfl) ?_
              refine hx_Vz (wr := []) (As := [.int (gR st 3)]) (rest := []) hI (c_Mod_wrong s1 hv (gR st 3)) (cw_V (C := "HeadDeskModel") 1 hts m_3_124 m_3_126 ms_29 m_1_5 m_3_127 (by decide +kernel) ⟨by decide, by decide⟩) hX hA hP hD hS [0, 1, 2, 3, 4, 5, 6] [] rfl rfl (by decide) (by decide) (by decide) (va_recv hX.1 hP (ci := 4) (q0 := 0) rfl rfl) rfl hl.1 rfl (Nat.le_of_ble_eq_true rfl) d_Mod_name_58 ⟨Nat.zero_le _, Nat.zero_le _⟩ (fun H locs hP hD hS => ?_)
              obtain ⟨s_58, e_58⟩ : ∃ z : MS, z = mWr s1 (gR st 3) := ⟨_, rfl⟩
              have i_58 : mInv s_58 := by rw [e_58]; exact inv_wr hv
              have hP : va_P D vwCl (mdW bd ce s_58) H := by rw [e_58]; exact hP
              have hD : va_D A (mdW bd ce s_58) := by rw [e_58]; exact hD
              exact hret H locs s_58 false _ _ hP hD hS (pr2 (by rw [hF]; (try simp only [mLetL, c_12, if_neg c_33, if_neg c_53, ← e_58, if_true, if_false, Bool.false_eq_true, ↓reduceIte]) <;> (try simp only [mNamE, c_12, if_neg c_33, if_neg c_53, ← e_58, if_true, if_false, Bool.false_eq_true, ↓reduceIte]) <;> (try simp only [mNamF, c_12, if_neg c_33, if_neg c_53, ← e_58, if_true, if_false, Bool.false_eq_true, ↓reduceIte]) <;> (try simp only [mNamG, c_12, if_neg c_33, if_neg c_53, ← e_58, if_true, if_false, Bool.false_eq_true, ↓reduceIte]) <;> (first | done | with_reducible rfl | rw [e_58]))) d_Mod_name_61
          · skip
            have c_33 : (gR s1 3 = gR st 3) := c_33
            refine lv_aload_n hx hb d_Mod_name_36 rfl (lv_at hl 1 rfl) ?_
            refine lv_aload_n hx hb d_Mod_name_37 rfl (lv_at hl 1 rfl) ?_
            refine va_get (D := D) (ci := 4) (v := .int (gR s1 3)) (C := "HeadDeskModel") (T := F_Mod) (N := 38) hx hb hts a_Mod hown hX.1 hP 0 rfl rfl 4 (by decide) (hts _ m_2_221) (fun _ h9 => h9) rfl d_Mod_name_38 ?_
            refine hx_Vz (wr := []) (As := [.int (gR s1 3)]) (rest := []) hI (c_Mod_wrong s1 hv (gR s1 3)) (cw_V (C := "HeadDeskModel") 1 hts m_3_124 m_3_126 ms_29 m_1_5 m_3_127 (by decide +kernel) ⟨by decide, by decide⟩) hX hA hP hD hS [0, 1, 2, 3, 4, 5, 6] [] rfl rfl (by decide) (by decide) (by decide) (va_recv hX.1 hP (ci := 4) (q0 := 0) rfl rfl) rfl hl.1 rfl (Nat.le_of_ble_eq_true rfl) d_Mod_name_41 ⟨Nat.zero_le _, Nat.zero_le _⟩ (fun H locs hP hD hS => ?_)
            obtain ⟨s_41, e_41⟩ : ∃ z : MS, z = mWr s1 (gR s1 3) := ⟨_, rfl⟩
            have i_41 : mInv s_41 := by rw [e_41]; exact inv_wr hv
            have hP : va_P D vwCl (mdW bd ce s_41) H := by rw [e_41]; exact hP
            have hD : va_D A (mdW bd ce s_41) := by rw [e_41]; exact hD
            exact hret H locs s_41 false _ _ hP hD hS (pr2 (by rw [hF]; (try simp only [mLetL, c_12, if_pos c_33, ← e_41, if_true, if_false, Bool.false_eq_true, ↓reduceIte]) <;> (try simp only [mNamE, c_12, if_pos c_33, ← e_41, if_true, if_false, Bool.false_eq_true, ↓reduceIte]) <;> (try simp only [mNamF, c_12, if_pos c_33, ← e_41, if_true, if_false, Bool.false_eq_true, ↓reduceIte]) <;> (try simp only [mNamG, c_12, if_pos c_33, ← e_41, if_true, if_false, Bool.false_eq_true, ↓reduceIte]) <;> (first | done | with_reducible rfl | rw [e_41]))) d_Mod_name_44
        · skip
          exact absurd (an_2 hj) (see_lt rfl (isL_ne (bI_1 c_12)))
      | succ k ih =>
        intro s1 H locs ls hj h0 hge hnm hv hF hP hD hS hl
        refine lv_aload_n hx hb d_Mod_name_5 rfl (lv_at hl 1 rfl) ?_
        refine hx_Vi (wr := []) (As := []) (rest := []) hI (c_Mod_see s1 hv ) (cw_V (C := "HeadDeskModel") 0 hts m_3_109 m_3_111 ms_26 m_1_5 m_3_112 (by decide +kernel) ⟨by decide, by decide⟩) hX hA hP hD hS [0, 1, 2, 3, 4, 5, 6] [] rfl rfl (by decide) (by decide) (by decide) (va_recv hX.1 hP (ci := 4) (q0 := 0) rfl rfl) rfl hl.1 rfl (Nat.le_of_ble_eq_true rfl) d_Mod_name_6 ⟨Nat.zero_le _, Nat.zero_le _⟩ (fun H locs hP hD hS => ?_)
        have hP : va_P D vwCl (mdW bd ce s1) H := hP
        have hD : va_D A (mdW bd ce s1) := hD
        refine hx_Sz (wr := [(bd 0, .inr (4, [.int (gR s1 0), .ref (bd 1), .int (gR s1 1), .int (gR s1 2), .int (gR s1 3), .int (gR s1 4), .int (gR s1 5), .int (gR s1 6), .int (gR s1 7), .int (gR s1 8), .int (gR s1 9), .int (gR s1 10), .int (gR s1 11), .int (gR s1 12), .int (gR s1 13), .int (gR s1 14), .int (gR s1 15), .int (gR s1 16), .int (gR s1 17), .int (gR s1 18), .ref (bd 2), .int (gR s1 19), .int (gR s1 20), .int (gR s1 21), .int (gR s1 22), .int (gR s1 23), .int (gR s1 24), .int (gR s1 25), .int (gR s1 26), .ref (bd 3), .ref (bd 4), .ref (bd 5), .ref (bd 6), .int (gR s1 27), .int (gR s1 28), .int (gR s1 29), .int (gR s1 30), .int (gR s1 31)])), (bd 1, .inl (ce 0, 300, .inl (gTp s1))), (bd 2, .inl (ce 1, 8, .inl (gMt s1))), (bd 3, .inl (ce 2, 150, .inl (gNf s1))), (bd 4, .inl (ce 3, 150, .inl (gNt s1))), (bd 5, .inl (ce 4, 18, .inl (gKp s1))), (bd 6, .inl (ce 5, 8, .inl (gKm s1)))]) (As := [.int (mSee s1)]) (rest := []) hI (c_Mod_isSmall (mSee s1)) (cw_S 1 hts m_3_149 m_3_150 m_1_5 m_3_151 (by decide +kernel) ⟨by decide, by decide⟩) hX hA hP hD hS [] [0, 1, 2, 3, 4, 5, 6] rfl rfl (by decide) (by decide) (by decide) rfl hl.1 rfl (Nat.le_of_ble_eq_true rfl) d_Mod_name_9 ⟨Nat.zero_le _, Nat.zero_le _⟩ (fun H locs hP hD hS => ?_)
        have hP : va_P D vwCl (mdW bd ce s1) H := hP.sub [0, 1, 2, 3, 4, 5, 6] rfl
        have hD : va_D A (mdW bd ce s1) := hD.sub [0, 1, 2, 3, 4, 5, 6] (by decide) rfl
        refine lv_if_eq (tgt := 28) hx hb d_Mod_name_12 (by decide) (fun c_12 => ?_) (fun c_12 => ?_)
        · skip
          have c_12 : (isL (mSee s1)) = false := bI_0 c_12
          refine lv_aload_n hx hb d_Mod_name_28 rfl (lv_at hl 1 rfl) ?_
          refine va_get (D := D) (ci := 4) (v := .int (gR s1 3)) (C := "HeadDeskModel") (T := F_Mod) (N := 38) hx hb hts a_Mod hown hX.1 hP 0 rfl rfl 4 (by decide) (hts _ m_2_221) (fun _ h9 => h9) rfl d_Mod_name_29 ?_
          refine lv_iload_n hx hb d_Mod_name_32 rfl (lv_at hl 0 rfl) ?_
          refine lv_icmp_ne (tgt := 45) hx hb d_Mod_name_33 (by decide) (fun c_33 => ?_) (fun c_33 => ?_)
          · skip
            have c_33 : ¬ (gR s1 3 = gR st 3) := c_33
            refine lv_aload_n hx hb d_Mod_name_45 rfl (lv_at hl 1 rfl) ?_
            refine va_get (D := D) (ci := 4) (v := .int (gR s1 3)) (C := "HeadDeskModel") (T := F_Mod) (N := 38) hx hb hts a_Mod hown hX.1 hP 0 rfl rfl 4 (by decide) (hts _ m_2_221) (fun _ h9 => h9) rfl d_Mod_name_46 ?_
            refine lv_iload_n hx hb d_Mod_name_49 rfl (lv_at hl 0 rfl) ?_
            refine lv_isub hx hb d_Mod_name_50 ?_
            refine lv_bipush (v := 20) hx hb d_Mod_name_51 (by decide) ?_
            refine lv_icmp_le (tgt := 62) hx hb d_Mod_name_53 (by decide) (fun c_53 => ?_) (fun c_53 => ?_)
            · skip
              have c_53 : ((gR s1 3) - (gR st 3) ≤ 20) := c_53
              refine lv_aload_n hx hb d_Mod_name_62 rfl (lv_at hl 1 rfl) ?_
              refine hx_Vi (wr := []) (As := []) (rest := []) hI (c_Mod_see s1 hv ) (cw_V (C := "HeadDeskModel") 0 hts m_3_109 m_3_111 ms_26 m_1_5 m_3_112 (by decide +kernel) ⟨by decide, by decide⟩) hX hA hP hD hS [0, 1, 2, 3, 4, 5, 6] [] rfl rfl (by decide) (by decide) (by decide) (va_recv hX.1 hP (ci := 4) (q0 := 0) rfl rfl) rfl hl.1 rfl (Nat.le_of_ble_eq_true rfl) d_Mod_name_63 ⟨Nat.zero_le _, Nat.zero_le _⟩ (fun H locs hP hD hS => ?_)
              have hP : va_P D vwCl (mdW bd ce s1) H := hP
              have hD : va_D A (mdW bd ce s1) := hD
              refine lv_bipush (v := 58) hx hb d_Mod_name_66 (by decide) ?_
              refine lv_icmp_eq (tgt := 80) hx hb d_Mod_name_68 (by decide) (fun c_68 => ?_) (fun c_68 => ?_)
              · skip
                have c_68 : (mSee s1 = 58) := c_68
                refine lv_iconst (v := 0) hx hb d_Mod_name_80 (by decide) ?_
                refine lv_istore_n (lv' := [(2, .int 0), (1, .int (gR st 3)), (0, .ref (bd 0))]) hx hb d_Mod_name_81 rfl hl (by decide) rfl (fun ls hl => ?_)
                have loop82 : ∀ (k : Nat) (j : Nat) (H : Heap) (locs : List Loc) (ls : Array Slot), j + k = (gR s1 26).toNatClampNeg → mNam st = (if mDup s1 (gR st 3) k j = true then (false, mWr s1 (gR st 3)) else mNamG (mAddN s1 (gR st 3))) → va_P D vwCl (mdW bd ce s1) H → va_D A (mdW bd ce s1) → va_S A s.heap H locs → lv_has ls 3 [(2, .int (nI j)), (1, .int (gR st 3)), (0, .ref (bd 0))] → W p l e (rmD 2) s m ([.ref (bd 0)] : List Value).toArray below meth c H locs 0 0 Q (F0 m 82 ls []) := by
                  intro k
                  induction k with
                  | zero =>
                    intro j H locs ls hj2 hF hP hD hS hl
                    refine lv_iload_n hx hb d_Mod_name_82 rfl (lv_at hl 0 rfl) ?_
                    refine lv_aload_n hx hb d_Mod_name_83 rfl (lv_at hl 2 rfl) ?_
                    refine va_get (D := D) (ci := 4) (v := .int (gR s1 26)) (C := "HeadDeskModel") (T := F_Mod) (N := 38) hx hb hts a_Mod hown hX.1 hP 0 rfl rfl 28 (by decide) (hts _ m_3_5) (fun _ h9 => h9) rfl d_Mod_name_84 ?_
                    refine lv_icmp_ge (tgt := 126) hx hb d_Mod_name_87 (by decide) (fun c_87 => ?_) (fun c_87 => ?_)
                    · skip
                      have c_87 : (gR s1 26 ≤ nI j) := c_87
                      refine lv_aload_n hx hb d_Mod_name_126 rfl (lv_at hl 2 rfl) ?_
                      refine va_get (D := D) (ci := 4) (v := .ref (bd 3)) (C := "HeadDeskModel") (T := F_Mod) (N := 38) hx hb hts a_Mod hown hX.1 hP 0 rfl rfl 29 (by decide) (hts _ m_3_6) (fun _ h9 => h9) rfl d_Mod_name_127 ?_
                      refine lv_aload_n hx hb d_Mod_name_130 rfl (lv_at hl 2 rfl) ?_
                      refine va_get (D := D) (ci := 4) (v := .int (gR s1 26)) (C := "HeadDeskModel") (T := F_Mod) (N := 38) hx hb hts a_Mod hown hX.1 hP 0 rfl rfl 28 (by decide) (hts _ m_3_5) (fun _ h9 => h9) rfl d_Mod_name_131 ?_
                      refine lv_iload_n hx hb d_Mod_name_134 rfl (lv_at hl 1 rfl) ?_
                      refine va_iast hx hb hX.1 hP hD hS 3 2 rfl rfl (nm_st hv hge hnm c_33) d_Mod_name_135 (fun H locs hP hD hS => ?_)
                      have hP : va_P D vwCl (mdW bd ce (wNf s1 (upd (gNf s1) (gR s1 26).toNatClampNeg (gR st 3)))) H := hP
                      have hD : va_D A (mdW bd ce (wNf s1 (upd (gNf s1) (gR s1 26).toNatClampNeg (gR st 3)))) := hD
                      refine lv_aload_n hx hb d_Mod_name_136 rfl (lv_at hl 2 rfl) ?_
                      refine va_get (D := D) (ci := 4) (v := .ref (bd 4)) (C := "HeadDeskModel") (T := F_Mod) (N := 38) hx hb hts a_Mod hown hX.1 hP 0 rfl rfl 30 (by decide) (hts _ m_3_7) (fun _ h9 => h9) rfl d_Mod_name_137 ?_
                      refine lv_aload_n hx hb d_Mod_name_140 rfl (lv_at hl 2 rfl) ?_
                      refine va_get (D := D) (ci := 4) (v := .int (gR s1 26)) (C := "HeadDeskModel") (T := F_Mod) (N := 38) hx hb hts a_Mod hown hX.1 hP 0 rfl rfl 28 (by decide) (hts _ m_3_5) (fun _ h9 => h9) rfl d_Mod_name_141 ?_
                      refine lv_aload_n hx hb d_Mod_name_144 rfl (lv_at hl 2 rfl) ?_
                      refine va_get (D := D) (ci := 4) (v := .int (gR s1 3)) (C := "HeadDeskModel") (T := F_Mod) (N := 38) hx hb hts a_Mod hown hX.1 hP 0 rfl rfl 4 (by decide) (hts _ m_2_221) (fun _ h9 => h9) rfl d_Mod_name_145 ?_
                      refine va_iast hx hb hX.1 hP hD hS 4 3 rfl rfl (nm_st hv hge hnm c_33) d_Mod_name_148 (fun H locs hP hD hS => ?_)
                      have hP : va_P D vwCl (mdW bd ce (wNt (wNf s1 (upd (gNf s1) (gR s1 26).toNatClampNeg (gR st 3))) (upd (gNt s1) (gR s1 26).toNatClampNeg (gR s1 3)))) H := hP
                      have hD : va_D A (mdW bd ce (wNt (wNf s1 (upd (gNf s1) (gR s1 26).toNatClampNeg (gR st 3))) (upd (gNt s1) (gR s1 26).toNatClampNeg (gR s1 3)))) := hD
                      refine lv_aload_n hx hb d_Mod_name_149 rfl (lv_at hl 2 rfl) ?_
                      refine lv_dup hx hb d_Mod_name_150 rfl ?_
                      refine va_get (D := D) (ci := 4) (v := .int (gR s1 26)) (C := "HeadDeskModel") (T := F_Mod) (N := 38) hx hb hts a_Mod hown hX.1 hP 0 rfl rfl 28 (by decide) (hts _ m_3_5) (fun _ h9 => h9) rfl d_Mod_name_151 ?_
                      refine lv_iconst (v := 1) hx hb d_Mod_name_154 (by decide) ?_
                      refine lv_iadd hx hb d_Mod_name_155 ?_
                      refine va_put (D := D) (ci := 4) (v := .int ((gR s1 26) + 1)) (ty := .int) (C := "HeadDeskModel") (T := F_Mod) (N := 38) hx hb hts a_Mod t_Mod k_Mod n_Mod hown hX.1 hP hD hS 0 rfl rfl 28 (by decide) (hts _ m_3_5) (fun _ h9 => h9) rfl (by decide +kernel) rfl rfl (Nat.le_of_ble_eq_true rfl) d_Mod_name_156 (fun H locs hP hD hS => ?_)
                      have hP : va_P D vwCl (mdW bd ce (wR (wNt (wNf s1 (upd (gNf s1) (gR s1 26).toNatClampNeg (gR st 3))) (upd (gNt s1) (gR s1 26).toNatClampNeg (gR s1 3))) 26 ((gR s1 26) + 1))) H := hP
                      have hD : va_D A (mdW bd ce (wR (wNt (wNf s1 (upd (gNf s1) (gR s1 26).toNatClampNeg (gR st 3))) (upd (gNt s1) (gR s1 26).toNatClampNeg (gR s1 3))) 26 ((gR s1 26) + 1))) := hD
                      obtain ⟨s_156, e_156⟩ : ∃ z : MS, z = wR (wNt (wNf s1 (upd (gNf s1) (gR s1 26).toNatClampNeg (gR st 3))) (upd (gNt s1) (gR s1 26).toNatClampNeg (gR s1 3))) 26 ((gR s1 26) + 1) := ⟨_, rfl⟩
                      have hP : va_P D vwCl (mdW bd ce s_156) H := by rw [e_156]; exact hP
                      have hD : va_D A (mdW bd ce s_156) := by rw [e_156]; exact hD
                      refine lv_aload_n hx hb d_Mod_name_159 rfl (lv_at hl 2 rfl) ?_
                      refine lv_dup hx hb d_Mod_name_160 rfl ?_
                      refine va_get (D := D) (ci := 4) (v := .int (gR s_156 3)) (C := "HeadDeskModel") (T := F_Mod) (N := 38) hx hb hts a_Mod hown hX.1 hP 0 rfl rfl 4 (by decide) (hts _ m_2_221) (fun _ h9 => h9) rfl d_Mod_name_161 ?_
                      refine lv_iconst (v := 1) hx hb d_Mod_name_164 (by decide) ?_
                      refine lv_iadd hx hb d_Mod_name_165 ?_
                      refine va_put (D := D) (ci := 4) (v := .int ((gR s_156 3) + 1)) (ty := .int) (C := "HeadDeskModel") (T := F_Mod) (N := 38) hx hb hts a_Mod t_Mod k_Mod n_Mod hown hX.1 hP hD hS 0 rfl rfl 4 (by decide) (hts _ m_2_221) (fun _ h9 => h9) rfl (by decide +kernel) rfl rfl (Nat.le_of_ble_eq_true rfl) d_Mod_name_166 (fun H locs hP hD hS => ?_)
                      have hP : va_P D vwCl (mdW bd ce (wR s_156 3 ((gR s_156 3) + 1))) H := hP
                      have hD : va_D A (mdW bd ce (wR s_156 3 ((gR s_156 3) + 1))) := hD
                      have i_166 : mInv (wR s_156 3 ((gR s_156 3) + 1)) := by rw [e_156]; exact inv_add hv h0 hge hnm c_33 (see_lt c_68 (by decide))
                      obtain ⟨s_166, e_166⟩ : ∃ z : MS, z = wR s_156 3 ((gR s_156 3) + 1) := ⟨_, rfl⟩
                      have hP : va_P D vwCl (mdW bd ce s_166) H := by rw [e_166]; exact hP
                      have hD : va_D A (mdW bd ce s_166) := by rw [e_166]; exact hD
                      have i_166 : mInv s_166 := by rw [e_166]; exact i_166
                      refine lv_aload_n hx hb d_Mod_name_169 rfl (lv_at hl 2 rfl) ?_
                      refine hx_Vi (wr := []) (As := []) (rest := []) hI (c_Mod_see s_166 i_166 ) (cw_V (C := "HeadDeskModel") 0 hts m_3_109 m_3_111 ms_26 m_1_5 m_3_112 (by decide +kernel) ⟨by decide, by decide⟩) hX hA hP hD hS [0, 1, 2, 3, 4, 5, 6] [] rfl rfl (by decide) (by decide) (by decide) (va_recv hX.1 hP (ci := 4) (q0 := 0) rfl rfl) rfl hl.1 rfl (Nat.le_of_ble_eq_true rfl) d_Mod_name_170 ⟨Nat.zero_le _, Nat.zero_le _⟩ (fun H locs hP hD hS => ?_)
                      have hP : va_P D vwCl (mdW bd ce s_166) H := hP
                      have hD : va_D A (mdW bd ce s_166) := hD
                      refine lv_bipush (v := 32) hx hb d_Mod_name_173 (by decide) ?_
                      refine lv_icmp_ne (tgt := 188) hx hb d_Mod_name_175 (by decide) (fun c_175 => ?_) (fun c_175 => ?_)
                      · skip
                        have c_175 : ¬ (mSee s_166 = 32) := c_175
                        refine lv_iconst (v := 1) hx hb d_Mod_name_188 (by decide) ?_
                        exact hret H locs s_166 true _ _ hP hD hS (pr2 (by rw [hF]; (try simp only [mDup, if_pos c_87, if_neg c_175, ← e_156, ← e_166, if_true, if_false, Bool.false_eq_true, ↓reduceIte]) <;> (try simp only [mAddN, if_pos c_87, if_neg c_175, ← e_156, ← e_166, if_true, if_false, Bool.false_eq_true, ↓reduceIte]) <;> (try simp only [mNx, if_pos c_87, if_neg c_175, ← e_156, ← e_166, if_true, if_false, Bool.false_eq_true, ↓reduceIte]) <;> (try simp only [mNamG, if_pos c_87, if_neg c_175, ← e_156, ← e_166, if_true, if_false, Bool.false_eq_true, ↓reduceIte]) <;> (first | done | with_reducible rfl | rw [e_166]))) d_Mod_name_189
                      · skip
                        have c_175 : (mSee s_166 = 32) := c_175
                        refine lv_aload_n hx hb d_Mod_name_178 rfl (lv_at hl 2 rfl) ?_
                        refine lv_dup hx hb d_Mod_name_179 rfl ?_
                        refine va_get (D := D) (ci := 4) (v := .int (gR s_166 3)) (C := "HeadDeskModel") (T := F_Mod) (N := 38) hx hb hts a_Mod hown hX.1 hP 0 rfl rfl 4 (by decide) (hts _ m_2_221) (fun _ h9 => h9) rfl d_Mod_name_180 ?_
                        refine lv_iconst (v := 1) hx hb d_Mod_name_183 (by decide) ?_
                        refine lv_iadd hx hb d_Mod_name_184 ?_
                        refine va_put (D := D) (ci := 4) (v := .int ((gR s_166 3) + 1)) (ty := .int) (C := "HeadDeskModel") (T := F_Mod) (N := 38) hx hb hts a_Mod t_Mod k_Mod n_Mod hown hX.1 hP hD hS 0 rfl rfl 4 (by decide) (hts _ m_2_221) (fun _ h9 => h9) rfl (by decide +kernel) rfl rfl (Nat.le_of_ble_eq_true rfl) d_Mod_name_185 (fun H locs hP hD hS => ?_)
                        have hP : va_P D vwCl (mdW bd ce (wR s_166 3 ((gR s_166 3) + 1))) H := hP
                        have hD : va_D A (mdW bd ce (wR s_166 3 ((gR s_166 3) + 1))) := hD
                        have i_185 : mInv (wR s_166 3 ((gR s_166 3) + 1)) := inv_nx (s := s_166) i_166 (see_lt c_175 (by decide))
                        obtain ⟨s_185, e_185⟩ : ∃ z : MS, z = wR s_166 3 ((gR s_166 3) + 1) := ⟨_, rfl⟩
                        have hP : va_P D vwCl (mdW bd ce s_185) H := by rw [e_185]; exact hP
                        have hD : va_D A (mdW bd ce s_185) := by rw [e_185]; exact hD
                        have i_185 : mInv s_185 := by rw [e_185]; exact i_185
                        refine lv_iconst (v := 1) hx hb d_Mod_name_188 (by decide) ?_
                        exact hret H locs s_185 true _ _ hP hD hS (pr2 (by rw [hF]; (try simp only [mDup, if_pos c_87, if_pos c_175, ← e_156, ← e_166, ← e_185, if_true, if_false, Bool.false_eq_true, ↓reduceIte]) <;> (try simp only [mAddN, if_pos c_87, if_pos c_175, ← e_156, ← e_166, ← e_185, if_true, if_false, Bool.false_eq_true, ↓reduceIte]) <;> (try simp only [mNx, if_pos c_87, if_pos c_175, ← e_156, ← e_166, ← e_185, if_true, if_false, Bool.false_eq_true, ↓reduceIte]) <;> (try simp only [mNamG, if_pos c_87, if_pos c_175, ← e_156, ← e_166, ← e_185, if_true, if_false, Bool.false_eq_true, ↓reduceIte]) <;> (first | done | with_reducible rfl | rw [e_185]))) d_Mod_name_189
                    · skip
                      exact absurd (nI_cyes (by omega) (by have := cl_le (gR s1 26); omega)) c_87
                  | succ k ih =>
                    intro j H locs ls hj2 hF hP hD hS hl
                    have hjb := (nm_lt hv (show j < (gR s1 26).toNatClampNeg by omega)).1
                    refine lv_iload_n hx hb d_Mod_name_82 rfl (lv_at hl 0 rfl) ?_
                    refine lv_aload_n hx hb d_Mod_name_83 rfl (lv_at hl 2 rfl) ?_
                    refine va_get (D := D) (ci := 4) (v := .int (gR s1 26)) (C := "HeadDeskModel") (T := F_Mod) (N := 38) hx hb hts a_Mod hown hX.1 hP 0 rfl rfl 28 (by decide) (hts _ m_3_5) (fun _ h9 => h9) rfl d_Mod_name_84 ?_
                    refine lv_icmp_ge (tgt := 126) hx hb d_Mod_name_87 (by decide) (fun c_87 => ?_) (fun c_87 => ?_)
                    · skip
                      exact absurd c_87 (nI_cno (by omega))
                    · skip
                      have c_87 : ¬ (gR s1 26 ≤ nI j) := c_87
                      refine lv_aload_n hx hb d_Mod_name_90 rfl (lv_at hl 2 rfl) ?_
                      refine lv_aload_n hx hb d_Mod_name_91 rfl (lv_at hl 2 rfl) ?_
                      refine va_get (D := D) (ci := 4) (v := .ref (bd 3)) (C := "HeadDeskModel") (T := F_Mod) (N := 38) hx hb hts a_Mod hown hX.1 hP 0 rfl rfl 29 (by decide) (hts _ m_3_6) (fun _ h9 => h9) rfl d_Mod_name_92 ?_
                      refine lv_iload_n hx hb d_Mod_name_95 rfl (lv_at hl 0 rfl) ?_
                      refine va_iald hx hb hX.1 hP 3 2 rfl rfl (vp_in_nI (nm_lt hv (by omega)).1 (by decide)) d_Mod_name_96 ?_
                      refine hx_top (v := (gNf s1) j) (by first | rfl | (rw [nI_clamp (by omega)])) ?_
                      refine lv_aload_n hx hb d_Mod_name_97 rfl (lv_at hl 2 rfl) ?_
                      refine va_get (D := D) (ci := 4) (v := .ref (bd 4)) (C := "HeadDeskModel") (T := F_Mod) (N := 38) hx hb hts a_Mod hown hX.1 hP 0 rfl rfl 30 (by decide) (hts _ m_3_7) (fun _ h9 => h9) rfl d_Mod_name_98 ?_
                      refine lv_iload_n hx hb d_Mod_name_101 rfl (lv_at hl 0 rfl) ?_
                      refine va_iald hx hb hX.1 hP 4 3 rfl rfl (vp_in_nI (nm_lt hv (by omega)).1 (by decide)) d_Mod_name_102 ?_
                      refine hx_top (v := (gNt s1) j) (by first | rfl | (rw [nI_clamp (by omega)])) ?_
                      refine lv_iload_n hx hb d_Mod_name_103 rfl (lv_at hl 1 rfl) ?_
                      refine lv_aload_n hx hb d_Mod_name_104 rfl (lv_at hl 2 rfl) ?_
                      refine va_get (D := D) (ci := 4) (v := .int (gR s1 3)) (C := "HeadDeskModel") (T := F_Mod) (N := 38) hx hb hts a_Mod hown hX.1 hP 0 rfl rfl 4 (by decide) (hts _ m_2_221) (fun _ h9 => h9) rfl d_Mod_name_105 ?_
                      refine hx_Vz (wr := []) (As := [.int ((gNf s1) j), .int ((gNt s1) j), .int (gR st 3), .int (gR s1 3)]) (rest := []) hI (c_Mod_isSame s1 hv ((gNf s1) j) ((gNt s1) j) (gR st 3) (gR s1 3) (sp_nm hv (nm_lt hv (by omega)).2) (sp_at hv h0 hge)) (cw_V (C := "HeadDeskModel") 4 hts m_3_152 m_3_154 ms_34 m_1_5 m_3_155 (by decide +kernel) ⟨by decide, by decide⟩) hX hA hP hD hS [0, 1, 2, 3, 4, 5, 6] [] rfl rfl (by decide) (by decide) (by decide) (va_recv hX.1 hP (ci := 4) (q0 := 0) rfl rfl) rfl hl.1 rfl (Nat.le_of_ble_eq_true rfl) d_Mod_name_108 ⟨Nat.zero_le _, Nat.zero_le _⟩ (fun H locs hP hD hS => ?_)
                      have hP : va_P D vwCl (mdW bd ce s1) H := hP
                      have hD : va_D A (mdW bd ce s1) := hD
                      refine lv_if_eq (tgt := 120) hx hb d_Mod_name_111 (by decide) (fun c_111 => ?_) (fun c_111 => ?_)
                      · skip
                        have c_111 : (mSame (gTp s1) ((gNf s1) j) ((gNt s1) j) (gR st 3) (gR s1 3)) = false := bI_0 c_111
                        refine lv_iinc (v := nI (j + 1)) (lv' := [(2, .int (nI (j + 1))), (1, .int (gR st 3)), (0, .ref (bd 0))]) hx hb d_Mod_name_120 hl (k := 0) rfl (by rw [nI_succ]; rfl) (by decide) rfl (fun ls hl => ?_)
                        refine lv_goto (tgt := 82) hx hb d_Mod_name_123 (by decide) ?_
                        exact ih (j + 1) H locs ls (by omega) (by rw [hF, mDup, c_111]; rfl) hP hD hS (lv_sub hl [0, 1, 2] rfl)
                      · skip
                        have c_111 : (mSame (gTp s1) ((gNf s1) j) ((gNt s1) j) (gR st 3) (gR s1 3)) = true := bI_1 c_111
                        refine lv_aload_n hx hb d_Mod_name_114 rfl (lv_at hl 2 rfl) ?_
                        refine lv_iload_n hx hb d_Mod_name_115 rfl (lv_at hl 1 rfl) ?_
                        refine hx_Vz (wr := []) (As := [.int (gR st 3)]) (rest := []) hI (c_Mod_wrong s1 hv (gR st 3)) (cw_V (C := "HeadDeskModel") 1 hts m_3_124 m_3_126 ms_29 m_1_5 m_3_127 (by decide +kernel) ⟨by decide, by decide⟩) hX hA hP hD hS [0, 1, 2, 3, 4, 5, 6] [] rfl rfl (by decide) (by decide) (by decide) (va_recv hX.1 hP (ci := 4) (q0 := 0) rfl rfl) rfl hl.1 rfl (Nat.le_of_ble_eq_true rfl) d_Mod_name_116 ⟨Nat.zero_le _, Nat.zero_le _⟩ (fun H locs hP hD hS => ?_)
                        obtain ⟨s_116, e_116⟩ : ∃ z : MS, z = mWr s1 (gR st 3) := ⟨_, rfl⟩
                        have i_116 : mInv s_116 := by rw [e_116]; exact inv_wr hv
                        have hP : va_P D vwCl (mdW bd ce s_116) H := by rw [e_116]; exact hP
                        have hD : va_D A (mdW bd ce s_116) := by rw [e_116]; exact hD
                        exact hret H locs s_116 false _ _ hP hD hS (pr2 (by rw [hF]; (try simp only [mDup, if_neg c_87, c_111, ← e_116, if_true, if_false, Bool.false_eq_true, ↓reduceIte]) <;> (try simp only [mAddN, if_neg c_87, c_111, ← e_116, if_true, if_false, Bool.false_eq_true, ↓reduceIte]) <;> (try simp only [mNx, if_neg c_87, c_111, ← e_116, if_true, if_false, Bool.false_eq_true, ↓reduceIte]) <;> (try simp only [mNamG, if_neg c_87, c_111, ← e_116, if_true, if_false, Bool.false_eq_true, ↓reduceIte]) <;> (first | done | with_reducible rfl | rw [e_116]))) d_Mod_name_119
                exact loop82 ((gR s1 26).toNatClampNeg) 0  H locs ls (by omega) (by rw [hF]; (try simp only [mLetL, c_12, if_neg c_33, if_pos c_53, if_pos c_68, if_true, if_false, Bool.false_eq_true, ↓reduceIte]) <;> (try simp only [mNamE, c_12, if_neg c_33, if_pos c_53, if_pos c_68, if_true, if_false, Bool.false_eq_true, ↓reduceIte]) <;> (try simp only [mNamF, c_12, if_neg c_33, if_pos c_53, if_pos c_68, if_true, if_false, Bool.false_eq_true, ↓reduceIte]) <;> (try simp only [mNamG, c_12, if_neg c_33, if_pos c_53, if_pos c_68, if_true, if_false, Bool.false_eq_true, ↓reduceIte]) <;> (first | done | with_reducible rfl)) hP hD hS (lv_sub hl [0, 1, 2] rfl)
              · skip
                have c_68 : ¬ (mSee s1 = 58) := c_68
                refine lv_aload_n hx hb d_Mod_name_71 rfl (lv_at hl 1 rfl) ?_
                refine lv_aload_n hx hb d_Mod_name_72 rfl (lv_at hl 1 rfl) ?_
                refine va_get (D := D) (ci := 4) (v := .int (gR s1 3)) (C := "HeadDeskModel") (T := F_Mod) (N := 38) hx hb hts a_Mod hown hX.1 hP 0 rfl rfl 4 (by decide) (hts _ m_2_221) (fun _ h9 => h9) rfl d_Mod_name_73 ?_
                refine hx_Vz (wr := []) (As := [.int (gR s1 3)]) (rest := []) hI (c_Mod_wrong s1 hv (gR s1 3)) (cw_V (C := "HeadDeskModel") 1 hts m_3_124 m_3_126 ms_29 m_1_5 m_3_127 (by decide +kernel) ⟨by decide, by decide⟩) hX hA hP hD hS [0, 1, 2, 3, 4, 5, 6] [] rfl rfl (by decide) (by decide) (by decide) (va_recv hX.1 hP (ci := 4) (q0 := 0) rfl rfl) rfl hl.1 rfl (Nat.le_of_ble_eq_true rfl) d_Mod_name_76 ⟨Nat.zero_le _, Nat.zero_le _⟩ (fun H locs hP hD hS => ?_)
                obtain ⟨s_76, e_76⟩ : ∃ z : MS, z = mWr s1 (gR s1 3) := ⟨_, rfl⟩
                have i_76 : mInv s_76 := by rw [e_76]; exact inv_wr hv
                have hP : va_P D vwCl (mdW bd ce s_76) H := by rw [e_76]; exact hP
                have hD : va_D A (mdW bd ce s_76) := by rw [e_76]; exact hD
                exact hret H locs s_76 false _ _ hP hD hS (pr2 (by rw [hF]; (try simp only [mLetL, c_12, if_neg c_33, if_pos c_53, if_neg c_68, ← e_76, if_true, if_false, Bool.false_eq_true, ↓reduceIte]) <;> (try simp only [mNamE, c_12, if_neg c_33, if_pos c_53, if_neg c_68, ← e_76, if_true, if_false, Bool.false_eq_true, ↓reduceIte]) <;> (try simp only [mNamF, c_12, if_neg c_33, if_pos c_53, if_neg c_68, ← e_76, if_true, if_false, Bool.false_eq_true, ↓reduceIte]) <;> (try simp only [mNamG, c_12, if_neg c_33, if_pos c_53, if_neg c_68, ← e_76, if_true, if_false, Bool.false_eq_true, ↓reduceIte]) <;> (first | done | with_reducible rfl | rw [e_76]))) d_Mod_name_79
            · skip
              have c_53 : ¬ ((gR s1 3) - (gR st 3) ≤ 20) := c_53
              refine lv_aload_n hx hb d_Mod_name_56 rfl (lv_at hl 1 rfl) ?_
              refine lv_iload_n hx hb d_Mod_name_57 rfl (lv_at hl 0 rfl) ?_
              refine hx_Vz (wr := []) (As := [.int (gR st 3)]) (rest := []) hI (c_Mod_wrong s1 hv (gR st 3)) (cw_V (C := "HeadDeskModel") 1 hts m_3_124 m_3_126 ms_29 m_1_5 m_3_127 (by decide +kernel) ⟨by decide, by decide⟩) hX hA hP hD hS [0, 1, 2, 3, 4, 5, 6] [] rfl rfl (by decide) (by decide) (by decide) (va_recv hX.1 hP (ci := 4) (q0 := 0) rfl rfl) rfl hl.1 rfl (Nat.le_of_ble_eq_true rfl) d_Mod_name_58 ⟨Nat.zero_le _, Nat.zero_le _⟩ (fun H locs hP hD hS => ?_)
              obtain ⟨s_58, e_58⟩ : ∃ z : MS, z = mWr s1 (gR st 3) := ⟨_, rfl⟩
              have i_58 : mInv s_58 := by rw [e_58]; exact inv_wr hv
              have hP : va_P D vwCl (mdW bd ce s_58) H := by rw [e_58]; exact hP
              have hD : va_D A (mdW bd ce s_58) := by rw [e_58]; exact hD
              exact hret H locs s_58 false _ _ hP hD hS (pr2 (by rw [hF]; (try simp only [mLetL, c_12, if_neg c_33, if_neg c_53, ← e_58, if_true, if_false, Bool.false_eq_true, ↓reduceIte]) <;> (try simp only [mNamE, c_12, if_neg c_33, if_neg c_53, ← e_58, if_true, if_false, Bool.false_eq_true, ↓reduceIte]) <;> (try simp only [mNamF, c_12, if_neg c_33, if_neg c_53, ← e_58, if_true, if_false, Bool.false_eq_true, ↓reduceIte]) <;> (try simp only [mNamG, c_12, if_neg c_33, if_neg c_53, ← e_58, if_true, if_false, Bool.false_eq_true, ↓reduceIte]) <;> (first | done | with_reducible rfl | rw [e_58]))) d_Mod_name_61
          · skip
            have c_33 : (gR s1 3 = gR st 3) := c_33
            refine lv_aload_n hx hb d_Mod_name_36 rfl (lv_at hl 1 rfl) ?_
            refine lv_aload_n hx hb d_Mod_name_37 rfl (lv_at hl 1 rfl) ?_
            refine va_get (D := D) (ci := 4) (v := .int (gR s1 3)) (C := "HeadDeskModel") (T := F_Mod) (N := 38) hx hb hts a_Mod hown hX.1 hP 0 rfl rfl 4 (by decide) (hts _ m_2_221) (fun _ h9 => h9) rfl d_Mod_name_38 ?_
            refine hx_Vz (wr := []) (As := [.int (gR s1 3)]) (rest := []) hI (c_Mod_wrong s1 hv (gR s1 3)) (cw_V (C := "HeadDeskModel") 1 hts m_3_124 m_3_126 ms_29 m_1_5 m_3_127 (by decide +kernel) ⟨by decide, by decide⟩) hX hA hP hD hS [0, 1, 2, 3, 4, 5, 6] [] rfl rfl (by decide) (by decide) (by decide) (va_recv hX.1 hP (ci := 4) (q0 := 0) rfl rfl) rfl hl.1 rfl (Nat.le_of_ble_eq_true rfl) d_Mod_name_41 ⟨Nat.zero_le _, Nat.zero_le _⟩ (fun H locs hP hD hS => ?_)
            obtain ⟨s_41, e_41⟩ : ∃ z : MS, z = mWr s1 (gR s1 3) := ⟨_, rfl⟩
            have i_41 : mInv s_41 := by rw [e_41]; exact inv_wr hv
            have hP : va_P D vwCl (mdW bd ce s_41) H := by rw [e_41]; exact hP
            have hD : va_D A (mdW bd ce s_41) := by rw [e_41]; exact hD
            exact hret H locs s_41 false _ _ hP hD hS (pr2 (by rw [hF]; (try simp only [mLetL, c_12, if_pos c_33, ← e_41, if_true, if_false, Bool.false_eq_true, ↓reduceIte]) <;> (try simp only [mNamE, c_12, if_pos c_33, ← e_41, if_true, if_false, Bool.false_eq_true, ↓reduceIte]) <;> (try simp only [mNamF, c_12, if_pos c_33, ← e_41, if_true, if_false, Bool.false_eq_true, ↓reduceIte]) <;> (try simp only [mNamG, c_12, if_pos c_33, ← e_41, if_true, if_false, Bool.false_eq_true, ↓reduceIte]) <;> (first | done | with_reducible rfl | rw [e_41]))) d_Mod_name_44
        · skip
          have c_12 : (isL (mSee s1)) = true := bI_1 c_12
          refine lv_aload_n hx hb d_Mod_name_15 rfl (lv_at hl 1 rfl) ?_
          refine lv_dup hx hb d_Mod_name_16 rfl ?_
          refine va_get (D := D) (ci := 4) (v := .int (gR s1 3)) (C := "HeadDeskModel") (T := F_Mod) (N := 38) hx hb hts a_Mod hown hX.1 hP 0 rfl rfl 4 (by decide) (hts _ m_2_221) (fun _ h9 => h9) rfl d_Mod_name_17 ?_
          refine lv_iconst (v := 1) hx hb d_Mod_name_20 (by decide) ?_
          refine lv_iadd hx hb d_Mod_name_21 ?_
          refine va_put (D := D) (ci := 4) (v := .int ((gR s1 3) + 1)) (ty := .int) (C := "HeadDeskModel") (T := F_Mod) (N := 38) hx hb hts a_Mod t_Mod k_Mod n_Mod hown hX.1 hP hD hS 0 rfl rfl 4 (by decide) (hts _ m_2_221) (fun _ h9 => h9) rfl (by decide +kernel) rfl rfl (Nat.le_of_ble_eq_true rfl) d_Mod_name_22 (fun H locs hP hD hS => ?_)
          have hP : va_P D vwCl (mdW bd ce (wR s1 3 ((gR s1 3) + 1))) H := hP
          have hD : va_D A (mdW bd ce (wR s1 3 ((gR s1 3) + 1))) := hD
          have i_22 : mInv (wR s1 3 ((gR s1 3) + 1)) := inv_nx (s := s1) hv (see_lt rfl (isL_ne c_12))
          obtain ⟨s_22, e_22⟩ : ∃ z : MS, z = wR s1 3 ((gR s1 3) + 1) := ⟨_, rfl⟩
          have hP : va_P D vwCl (mdW bd ce s_22) H := by rw [e_22]; exact hP
          have hD : va_D A (mdW bd ce s_22) := by rw [e_22]; exact hD
          have i_22 : mInv s_22 := by rw [e_22]; exact i_22
          refine lv_goto (tgt := 5) hx hb d_Mod_name_25 (by decide) ?_
          exact ih s_22 H locs ls (by rw [e_22]; exact an_1 hv (see_lt rfl (isL_ne c_12)) hj) h0 (by rw [e_22]; exact at_up hv (see_lt rfl (isL_ne c_12)) hge) (by rw [e_22]; exact hnm) i_22 (by rw [hF, mLetL, if_pos c_12, mNx, ← e_22]) hP hD hS (lv_sub hl [0, 1] rfl)
    exact loop5 300  st H locs ls (an_0 hv) hv.1 (Int.le_refl _) hv.2.2.2.2.1 hv rfl hP hD hS (lv_sub hl [0, 1] rfl)
  rw [hH, hlo] at goal
  exact goal
