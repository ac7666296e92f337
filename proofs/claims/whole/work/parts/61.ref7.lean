variable {l : Launch} {D : va_G} {bd : Nat → Nat} {ce : Nat → ClassId} {adK adV : Nat → Nat} {tF : Nat} {tys : List (ClassId × FieldType)}

set_option maxHeartbeats 4000000 in
set_option maxRecDepth 100000 in
theorem c_Mod_keyLetters (st : MS) (hv : mInv st)  : hx_Mv l D (tyM ce) adK adV tF (mdW bd ce) y_Mod_keyLetters w_Mod_keyLetters (rmD 2) [.ref (bd 0)] st (mKeyL 8 st) := by
  refine hx_Mv.of (cc := b_Mod_keyLetters) (maxL := 3) (by decide) rfl (Nat.le_of_ble_eq_true rfl) ?_
  intro p e s m below meth c A Q ls hI hX hA hP hD hS hl hret
  obtain ⟨hx, hb, hml, hown, hts⟩ := id hI
  have hts : ∀ w ∈ aw, w.before ([.ref (bd 0)] : List Value).toArray s = true := fun w h => hts w (List.mem_cons_of_mem _ h)
  have hown : s.vm.findClass "HeadDeskModel" = some m.cls := hown
  have hI : hx_In p s m ([.ref (bd 0)] : List Value).toArray c b_Mod_keyLetters 3 "HeadDeskModel" aw := ⟨hx, hb, hml, hown, hts⟩
  have hP : va_P D vwCl (mdW bd ce st) s.heap := hP
  obtain ⟨H, hH⟩ : ∃ H, H = s.heap := ⟨_, rfl⟩
  obtain ⟨locs, hlo⟩ : ∃ locs : List Loc, locs = [] := ⟨_, rfl⟩
  have hS : va_S A s.heap H locs := by rw [hH, hlo]; exact hS
  have hP : va_P D vwCl (mdW bd ce st) H := by rw [hH]; exact hP
  have hl : lv_has ls 3 [(0, .ref (bd 0))] := hl
  have goal : W p l e (rmD 2) s m ([.ref (bd 0)] : List Value).toArray below meth c H locs 0 0 Q (F0 m 0 ls []) := by
    refine lv_iconst (v := 0) hx hb d_Mod_keyLetters_0 (by decide) ?_
    refine lv_istore_n (lv' := [(1, .int 0), (0, .ref (bd 0))]) hx hb d_Mod_keyLetters_1 rfl hl (by decide) rfl (fun ls hl => ?_)
    refine lv_iconst (v := 1) hx hb d_Mod_keyLetters_2 (by decide) ?_
    refine lv_istore_n (lv' := [(2, .int 1), (1, .int 0), (0, .ref (bd 0))]) hx hb d_Mod_keyLetters_3 rfl hl (by decide) rfl (fun ls hl => ?_)
    have loop4 : ∀ (k : Nat) (j : Nat) (s1 : MS) (H : Heap) (locs : List Loc) (ls : Array Slot), j + k = 8 → j < 8 → mInv s1 → mKeyL 8 st = mKeyL k s1 → va_P D vwCl (mdW bd ce s1) H → va_D A (mdW bd ce s1) → va_S A s.heap H locs → lv_has ls 3 [(1, .int (nI j)), (2, .int 1), (0, .ref (bd 0))] → W p l e (rmD 2) s m ([.ref (bd 0)] : List Value).toArray below meth c H locs 0 0 Q (F0 m 4 ls []) := by
      intro k
      induction k with
      | zero =>
        intro j s1 H locs ls hj hlt hv hF hP hD hS hl
        exact absurd hlt (by omega)
      | succ k ih =>
        intro j s1 H locs ls hj hlt hv hF hP hD hS hl
        refine lv_iload_n hx hb d_Mod_keyLetters_4 rfl (lv_at hl 1 rfl) ?_
        refine lv_if_eq (tgt := 112) hx hb d_Mod_keyLetters_5 (by decide) (fun c_5 => ?_) (fun c_5 => ?_)
        · skip
          exact absurd c_5 (by decide)
        · skip
          refine lv_aload_n hx hb d_Mod_keyLetters_8 rfl (lv_at hl 2 rfl) ?_
          refine va_get (D := D) (ci := 4) (v := .int (gR s1 4)) (C := "HeadDeskModel") (T := F_Mod) (N := 38) hx hb hts a_Mod hown hX.1 hP 0 rfl rfl 5 (by decide) (hts _ m_2_222) (fun _ h9 => h9) rfl d_Mod_keyLetters_9 ?_
          refine lv_if_ne (tgt := 112) hx hb d_Mod_keyLetters_12 (by decide) (fun c_12 => ?_) (fun c_12 => ?_)
          · skip
            have c_12 : ¬ (gR s1 4 = 0) := c_12
            exact hret H locs s1 _ _ hP hD hS (by rw [hF]; (try simp only [mKeyL, if_neg c_12, if_true, if_false, Bool.false_eq_true, ↓reduceIte]) <;> (try simp only [mNx, if_neg c_12, if_true, if_false, Bool.false_eq_true, ↓reduceIte]) <;> (first | done | with_reducible rfl)) d_Mod_keyLetters_112
          · skip
            have c_12 : (gR s1 4 = 0) := c_12
            refine lv_aload_n hx hb d_Mod_keyLetters_15 rfl (lv_at hl 2 rfl) ?_
            refine hx_Vi (wr := []) (As := []) (rest := []) hI (c_Mod_see s1 hv ) (cw_V (C := "HeadDeskModel") 0 hts m_3_109 m_3_111 ms_26 m_1_5 m_3_112 (by decide +kernel) ⟨by decide, by decide⟩) hX hA hP hD hS [0, 1, 2, 3, 4, 5, 6] [] rfl rfl (by decide) (by decide) (by decide) (va_recv hX.1 hP (ci := 4) (q0 := 0) rfl rfl) rfl hl.1 rfl (Nat.le_of_ble_eq_true rfl) d_Mod_keyLetters_16 ⟨Nat.zero_le _, Nat.zero_le _⟩ (fun H locs hP hD hS => ?_)
            have hP : va_P D vwCl (mdW bd ce s1) H := hP
            have hD : va_D A (mdW bd ce s1) := hD
            refine lv_bipush (v := 97) hx hb d_Mod_keyLetters_19 (by decide) ?_
            refine lv_icmp_lt (tgt := 33) hx hb d_Mod_keyLetters_21 (by decide) (fun c_21 => ?_) (fun c_21 => ?_)
            · skip
              have c_21 : (mSee s1 < 97) := c_21
              refine lv_aload_n hx hb d_Mod_keyLetters_33 rfl (lv_at hl 2 rfl) ?_
              refine lv_aload_n hx hb d_Mod_keyLetters_34 rfl (lv_at hl 2 rfl) ?_
              refine va_get (D := D) (ci := 4) (v := .int (gR s1 3)) (C := "HeadDeskModel") (T := F_Mod) (N := 38) hx hb hts a_Mod hown hX.1 hP 0 rfl rfl 4 (by decide) (hts _ m_2_221) (fun _ h9 => h9) rfl d_Mod_keyLetters_35 ?_
              refine hx_Vz (wr := []) (As := [.int (gR s1 3)]) (rest := []) hI (c_Mod_wrong s1 hv (gR s1 3)) (cw_V (C := "HeadDeskModel") 1 hts m_3_124 m_3_126 ms_29 m_1_5 m_3_127 (by decide +kernel) ⟨by decide, by decide⟩) hX hA hP hD hS [0, 1, 2, 3, 4, 5, 6] [] rfl rfl (by decide) (by decide) (by decide) (va_recv hX.1 hP (ci := 4) (q0 := 0) rfl rfl) rfl hl.1 rfl (Nat.le_of_ble_eq_true rfl) d_Mod_keyLetters_38 ⟨Nat.zero_le _, Nat.zero_le _⟩ (fun H locs hP hD hS => ?_)
              obtain ⟨s_38, e_38⟩ : ∃ z : MS, z = mWr s1 (gR s1 3) := ⟨_, rfl⟩
              have i_38 : mInv s_38 := by rw [e_38]; exact inv_wr hv
              have hP : va_P D vwCl (mdW bd ce s_38) H := by rw [e_38]; exact hP
              have hD : va_D A (mdW bd ce s_38) := by rw [e_38]; exact hD
              refine lv_pop hx hb d_Mod_keyLetters_41 rfl ?_
              exact hret H locs s_38 _ _ hP hD hS (by rw [hF]; (try simp only [mKeyL, if_pos c_12, if_pos c_21, ← e_38, if_true, if_false, Bool.false_eq_true, ↓reduceIte]) <;> (try simp only [mNx, if_pos c_12, if_pos c_21, ← e_38, if_true, if_false, Bool.false_eq_true, ↓reduceIte]) <;> (first | done | with_reducible rfl | rw [e_38])) d_Mod_keyLetters_42
            · skip
              have c_21 : ¬ (mSee s1 < 97) := c_21
              refine lv_aload_n hx hb d_Mod_keyLetters_24 rfl (lv_at hl 2 rfl) ?_
              refine hx_Vi (wr := []) (As := []) (rest := []) hI (c_Mod_see s1 hv ) (cw_V (C := "HeadDeskModel") 0 hts m_3_109 m_3_111 ms_26 m_1_5 m_3_112 (by decide +kernel) ⟨by decide, by decide⟩) hX hA hP hD hS [0, 1, 2, 3, 4, 5, 6] [] rfl rfl (by decide) (by decide) (by decide) (va_recv hX.1 hP (ci := 4) (q0 := 0) rfl rfl) rfl hl.1 rfl (Nat.le_of_ble_eq_true rfl) d_Mod_keyLetters_25 ⟨Nat.zero_le _, Nat.zero_le _⟩ (fun H locs hP hD hS => ?_)
              have hP : va_P D vwCl (mdW bd ce s1) H := hP
              have hD : va_D A (mdW bd ce s1) := hD
              refine lv_bipush (v := 104) hx hb d_Mod_keyLetters_28 (by decide) ?_
              refine lv_icmp_le (tgt := 43) hx hb d_Mod_keyLetters_30 (by decide) (fun c_30 => ?_) (fun c_30 => ?_)
              · skip
                have c_30 : (mSee s1 ≤ 104) := c_30
                refine lv_aload_n hx hb d_Mod_keyLetters_43 rfl (lv_at hl 2 rfl) ?_
                refine lv_dup hx hb d_Mod_keyLetters_44 rfl ?_
                refine va_get (D := D) (ci := 4) (v := .int (gR s1 20)) (C := "HeadDeskModel") (T := F_Mod) (N := 38) hx hb hts a_Mod hown hX.1 hP 0 rfl rfl 22 (by decide) (hts _ m_2_239) (fun _ h9 => h9) rfl d_Mod_keyLetters_45 ?_
                refine lv_iconst (v := 1) hx hb d_Mod_keyLetters_48 (by decide) ?_
                refine lv_aload_n hx hb d_Mod_keyLetters_49 rfl (lv_at hl 2 rfl) ?_
                refine hx_Vi (wr := []) (As := []) (rest := [.int 1, .int (gR s1 20), .ref (bd 0)]) hI (c_Mod_see s1 hv ) (cw_V (C := "HeadDeskModel") 0 hts m_3_109 m_3_111 ms_26 m_1_5 m_3_112 (by decide +kernel) ⟨by decide, by decide⟩) hX hA hP hD hS [0, 1, 2, 3, 4, 5, 6] [] rfl rfl (by decide) (by decide) (by decide) (va_recv hX.1 hP (ci := 4) (q0 := 0) rfl rfl) rfl hl.1 rfl (Nat.le_of_ble_eq_true rfl) d_Mod_keyLetters_50 ⟨Nat.zero_le _, Nat.zero_le _⟩ (fun H locs hP hD hS => ?_)
                have hP : va_P D vwCl (mdW bd ce s1) H := hP
                have hD : va_D A (mdW bd ce s1) := hD
                refine lv_bipush (v := 97) hx hb d_Mod_keyLetters_53 (by decide) ?_
                refine lv_isub hx hb d_Mod_keyLetters_55 ?_
                refine lv_ishl hx hb d_Mod_keyLetters_56 ?_
                refine lv_ior hx hb d_Mod_keyLetters_57 ?_
                refine va_put (D := D) (ci := 4) (v := .int ((gR s1 20) ||| (1 <<< (((mSee s1) - 97) &&& 31)))) (ty := .int) (C := "HeadDeskModel") (T := F_Mod) (N := 38) hx hb hts a_Mod t_Mod k_Mod n_Mod hown hX.1 hP hD hS 0 rfl rfl 22 (by decide) (hts _ m_2_239) (fun _ h9 => h9) rfl (by decide +kernel) rfl rfl (Nat.le_of_ble_eq_true rfl) d_Mod_keyLetters_58 (fun H locs hP hD hS => ?_)
                have hP : va_P D vwCl (mdW bd ce (wR s1 20 ((gR s1 20) ||| (1 <<< (((mSee s1) - 97) &&& 31))))) H := hP
                have hD : va_D A (mdW bd ce (wR s1 20 ((gR s1 20) ||| (1 <<< (((mSee s1) - 97) &&& 31))))) := hD
                obtain ⟨s_58, e_58⟩ : ∃ z : MS, z = wR s1 20 ((gR s1 20) ||| (1 <<< (((mSee s1) - 97) &&& 31))) := ⟨_, rfl⟩
                have hP : va_P D vwCl (mdW bd ce s_58) H := by rw [e_58]; exact hP
                have hD : va_D A (mdW bd ce s_58) := by rw [e_58]; exact hD
                have i_58 : mInv s_58 := by rw [e_58]; exact hv
                refine lv_aload_n hx hb d_Mod_keyLetters_61 rfl (lv_at hl 2 rfl) ?_
                refine lv_dup hx hb d_Mod_keyLetters_62 rfl ?_
                refine va_get (D := D) (ci := 4) (v := .int (gR s_58 3)) (C := "HeadDeskModel") (T := F_Mod) (N := 38) hx hb hts a_Mod hown hX.1 hP 0 rfl rfl 4 (by decide) (hts _ m_2_221) (fun _ h9 => h9) rfl d_Mod_keyLetters_63 ?_
                refine lv_iconst (v := 1) hx hb d_Mod_keyLetters_66 (by decide) ?_
                refine lv_iadd hx hb d_Mod_keyLetters_67 ?_
                refine va_put (D := D) (ci := 4) (v := .int ((gR s_58 3) + 1)) (ty := .int) (C := "HeadDeskModel") (T := F_Mod) (N := 38) hx hb hts a_Mod t_Mod k_Mod n_Mod hown hX.1 hP hD hS 0 rfl rfl 4 (by decide) (hts _ m_2_221) (fun _ h9 => h9) rfl (by decide +kernel) rfl rfl (Nat.le_of_ble_eq_true rfl) d_Mod_keyLetters_68 (fun H locs hP hD hS => ?_)
                have hP : va_P D vwCl (mdW bd ce (wR s_58 3 ((gR s_58 3) + 1))) H := hP
                have hD : va_D A (mdW bd ce (wR s_58 3 ((gR s_58 3) + 1))) := hD
                have i_68 : mInv (wR s_58 3 ((gR s_58 3) + 1)) := inv_nx (s := s_58) i_58 (by rw [e_58]; exact see_lt rfl (ge97 c_21))
                obtain ⟨s_68, e_68⟩ : ∃ z : MS, z = wR s_58 3 ((gR s_58 3) + 1) := ⟨_, rfl⟩
                have hP : va_P D vwCl (mdW bd ce s_68) H := by rw [e_68]; exact hP
                have hD : va_D A (mdW bd ce s_68) := by rw [e_68]; exact hD
                have i_68 : mInv s_68 := by rw [e_68]; exact i_68
                refine lv_iinc (v := nI (j + 1)) (lv' := [(1, .int (nI (j + 1))), (2, .int 1), (0, .ref (bd 0))]) hx hb d_Mod_keyLetters_71 hl (k := 0) rfl (by rw [nI_succ]; rfl) (by decide) rfl (fun ls hl => ?_)
                refine lv_aload_n hx hb d_Mod_keyLetters_74 rfl (lv_at hl 2 rfl) ?_
                refine hx_Vi (wr := []) (As := []) (rest := []) hI (c_Mod_see s_68 i_68 ) (cw_V (C := "HeadDeskModel") 0 hts m_3_109 m_3_111 ms_26 m_1_5 m_3_112 (by decide +kernel) ⟨by decide, by decide⟩) hX hA hP hD hS [0, 1, 2, 3, 4, 5, 6] [] rfl rfl (by decide) (by decide) (by decide) (va_recv hX.1 hP (ci := 4) (q0 := 0) rfl rfl) rfl hl.1 rfl (Nat.le_of_ble_eq_true rfl) d_Mod_keyLetters_75 ⟨Nat.zero_le _, Nat.zero_le _⟩ (fun H locs hP hD hS => ?_)
                have hP : va_P D vwCl (mdW bd ce s_68) H := hP
                have hD : va_D A (mdW bd ce s_68) := hD
                refine lv_bipush (v := 32) hx hb d_Mod_keyLetters_78 (by decide) ?_
                refine lv_icmp_ne (tgt := 93) hx hb d_Mod_keyLetters_80 (by decide) (fun c_80 => ?_) (fun c_80 => ?_)
                · skip
                  have c_80 : ¬ (mSee s_68 = 32) := c_80
                  refine lv_iconst (v := 0) hx hb d_Mod_keyLetters_93 (by decide) ?_
                  refine lv_istore_n (lv' := [(2, .int 0), (1, .int (nI (j + 1))), (0, .ref (bd 0))]) hx hb d_Mod_keyLetters_94 rfl hl (by decide) rfl (fun ls hl => ?_)
                  refine lv_iload_n hx hb d_Mod_keyLetters_95 rfl (lv_at hl 0 rfl) ?_
                  refine lv_if_eq (tgt := 4) hx hb d_Mod_keyLetters_96 (by decide) (fun c_96 => ?_) (fun c_96 => ?_)
                  · skip
                    refine lv_iload_n hx hb d_Mod_keyLetters_4 rfl (lv_at hl 0 rfl) ?_
                    refine lv_if_eq (tgt := 112) hx hb d_Mod_keyLetters_5 (by decide) (fun c_5 => ?_) (fun c_5 => ?_)
                    · skip
                      exact hret H locs s_68 _ _ hP hD hS (by rw [hF]; (try simp only [mKeyL, if_pos c_12, if_neg c_21, if_pos c_30, if_neg c_80, ← e_58, ← e_68, if_true, if_false, Bool.false_eq_true, ↓reduceIte]) <;> (try simp only [mNx, if_pos c_12, if_neg c_21, if_pos c_30, if_neg c_80, ← e_58, ← e_68, if_true, if_false, Bool.false_eq_true, ↓reduceIte]) <;> (first | done | with_reducible rfl | rw [e_68])) d_Mod_keyLetters_112
                    · skip
                      exact absurd (by decide) c_5
                  · skip
                    exact absurd (by decide) c_96
                · skip
                  have c_80 : (mSee s_68 = 32) := c_80
                  refine lv_iload_n hx hb d_Mod_keyLetters_83 rfl (lv_at hl 0 rfl) ?_
                  refine lv_bipush (v := 8) hx hb d_Mod_keyLetters_84 (by decide) ?_
                  refine lv_icmp_ge (tgt := 93) hx hb d_Mod_keyLetters_86 (by decide) (fun c_86 => ?_) (fun c_86 => ?_)
                  · skip
                    have c_86 : k = 0 := kz0 hj c_86
                    refine lv_iconst (v := 0) hx hb d_Mod_keyLetters_93 (by decide) ?_
                    refine lv_istore_n (lv' := [(2, .int 0), (1, .int (nI (j + 1))), (0, .ref (bd 0))]) hx hb d_Mod_keyLetters_94 rfl hl (by decide) rfl (fun ls hl => ?_)
                    refine lv_iload_n hx hb d_Mod_keyLetters_95 rfl (lv_at hl 0 rfl) ?_
                    refine lv_if_eq (tgt := 4) hx hb d_Mod_keyLetters_96 (by decide) (fun c_96 => ?_) (fun c_96 => ?_)
                    · skip
                      refine lv_iload_n hx hb d_Mod_keyLetters_4 rfl (lv_at hl 0 rfl) ?_
                      refine lv_if_eq (tgt := 112) hx hb d_Mod_keyLetters_5 (by decide) (fun c_5 => ?_) (fun c_5 => ?_)
                      · skip
                        exact hret H locs s_68 _ _ hP hD hS (by rw [hF]; (try simp only [mKeyL, if_pos c_12, if_neg c_21, if_pos c_30, if_pos c_80, if_pos c_86, ← e_58, ← e_68, if_true, if_false, Bool.false_eq_true, ↓reduceIte]) <;> (try simp only [mNx, if_pos c_12, if_neg c_21, if_pos c_30, if_pos c_80, if_pos c_86, ← e_58, ← e_68, if_true, if_false, Bool.false_eq_true, ↓reduceIte]) <;> (first | done | with_reducible rfl | rw [e_68])) d_Mod_keyLetters_112
                      · skip
                        exact absurd (by decide) c_5
                    · skip
                      exact absurd (by decide) c_96
                  · skip
                    have c_86 : ¬ k = 0 := kz1 hj c_86
                    refine lv_iconst (v := 1) hx hb d_Mod_keyLetters_89 (by decide) ?_
                    refine lv_goto (tgt := 94) hx hb d_Mod_keyLetters_90 (by decide) ?_
                    refine lv_istore_n (lv' := [(2, .int 1), (1, .int (nI (j + 1))), (0, .ref (bd 0))]) hx hb d_Mod_keyLetters_94 rfl hl (by decide) rfl (fun ls hl => ?_)
                    refine lv_iload_n hx hb d_Mod_keyLetters_95 rfl (lv_at hl 0 rfl) ?_
                    refine lv_if_eq (tgt := 4) hx hb d_Mod_keyLetters_96 (by decide) (fun c_96 => ?_) (fun c_96 => ?_)
                    · skip
                      exact absurd c_96 (by decide)
                    · skip
                      refine lv_aload_n hx hb d_Mod_keyLetters_99 rfl (lv_at hl 2 rfl) ?_
                      refine lv_dup hx hb d_Mod_keyLetters_100 rfl ?_
                      refine va_get (D := D) (ci := 4) (v := .int (gR s_68 3)) (C := "HeadDeskModel") (T := F_Mod) (N := 38) hx hb hts a_Mod hown hX.1 hP 0 rfl rfl 4 (by decide) (hts _ m_2_221) (fun _ h9 => h9) rfl d_Mod_keyLetters_101 ?_
                      refine lv_iconst (v := 1) hx hb d_Mod_keyLetters_104 (by decide) ?_
                      refine lv_iadd hx hb d_Mod_keyLetters_105 ?_
                      refine va_put (D := D) (ci := 4) (v := .int ((gR s_68 3) + 1)) (ty := .int) (C := "HeadDeskModel") (T := F_Mod) (N := 38) hx hb hts a_Mod t_Mod k_Mod n_Mod hown hX.1 hP hD hS 0 rfl rfl 4 (by decide) (hts _ m_2_221) (fun _ h9 => h9) rfl (by decide +kernel) rfl rfl (Nat.le_of_ble_eq_true rfl) d_Mod_keyLetters_106 (fun H locs hP hD hS => ?_)
                      have hP : va_P D vwCl (mdW bd ce (wR s_68 3 ((gR s_68 3) + 1))) H := hP
                      have hD : va_D A (mdW bd ce (wR s_68 3 ((gR s_68 3) + 1))) := hD
                      have i_106 : mInv (wR s_68 3 ((gR s_68 3) + 1)) := inv_nx (s := s_68) i_68 (see_lt c_80 (by decide))
                      obtain ⟨s_106, e_106⟩ : ∃ z : MS, z = wR s_68 3 ((gR s_68 3) + 1) := ⟨_, rfl⟩
                      have hP : va_P D vwCl (mdW bd ce s_106) H := by rw [e_106]; exact hP
                      have hD : va_D A (mdW bd ce s_106) := by rw [e_106]; exact hD
                      have i_106 : mInv s_106 := by rw [e_106]; exact i_106
                      refine lv_goto (tgt := 4) hx hb d_Mod_keyLetters_109 (by decide) ?_
                      exact ih (j + 1) s_106 H locs ls (by omega) (by omega) i_106 (by rw [hF]; (try simp only [mKeyL, if_pos c_12, if_neg c_21, if_pos c_30, if_pos c_80, if_neg c_86, ← e_58, ← e_68, ← e_106, if_true, if_false, Bool.false_eq_true, ↓reduceIte]) <;> (try simp only [mNx, if_pos c_12, if_neg c_21, if_pos c_30, if_pos c_80, if_neg c_86, ← e_58, ← e_68, ← e_106, if_true, if_false, Bool.false_eq_true, ↓reduceIte]) <;> (first | done | with_reducible rfl | rw [e_106])) hP hD hS (lv_sub hl [1, 0, 2] rfl)
              · skip
                have c_30 : ¬ (mSee s1 ≤ 104) := c_30
                refine lv_aload_n hx hb d_Mod_keyLetters_33 rfl (lv_at hl 2 rfl) ?_
                refine lv_aload_n hx hb d_Mod_keyLetters_34 rfl (lv_at hl 2 rfl) ?_
                refine va_get (D := D) (ci := 4) (v := .int (gR s1 3)) (C := "HeadDeskModel") (T := F_Mod) (N := 38) hx hb hts a_Mod hown hX.1 hP 0 rfl rfl 4 (by decide) (hts _ m_2_221) (fun _ h9 => h9) rfl d_Mod_keyLetters_35 ?_
                refine hx_Vz (wr := []) (As := [.int (gR s1 3)]) (rest := []) hI (c_Mod_wrong s1 hv (gR s1 3)) (cw_V (C := "HeadDeskModel") 1 hts m_3_124 m_3_126 ms_29 m_1_5 m_3_127 (by decide +kernel) ⟨by decide, by decide⟩) hX hA hP hD hS [0, 1, 2, 3, 4, 5, 6] [] rfl rfl (by decide) (by decide) (by decide) (va_recv hX.1 hP (ci := 4) (q0 := 0) rfl rfl) rfl hl.1 rfl (Nat.le_of_ble_eq_true rfl) d_Mod_keyLetters_38 ⟨Nat.zero_le _, Nat.zero_le _⟩ (fun H locs hP hD hS => ?_)
                obtain ⟨s_38, e_38⟩ : ∃ z : MS, z = mWr s1 (gR s1 3) := ⟨_, rfl⟩
                have i_38 : mInv s_38 := by rw [e_38]; exact inv_wr hv
                have hP : va_P D vwCl (mdW bd ce s_38) H := by rw [e_38]; exact hP
                have hD : va_D A (mdW bd ce s_38) := by rw [e_38]; exact hD
                refine lv_pop hx hb d_Mod_keyLetters_41 rfl ?_
                exact hret H locs s_38 _ _ hP hD hS (by rw [hF]; (try simp only [mKeyL, if_pos c_12, if_neg c_21, if_neg c_30, ← e_38, if_true, if_false, Bool.false_eq_true, ↓reduceIte]) <;> (try simp only [mNx, if_pos c_12, if_neg c_21, if_neg c_30, ← e_38, if_true, if_false, Bool.false_eq_true, ↓reduceIte]) <;> (first | done | with_reducible rfl | rw [e_38])) d_Mod_keyLetters_42
    exact loop4 8 0 st H locs ls (by omega) (by omega) hv rfl hP hD hS (lv_sub hl [1, 0, 2] rfl)
  rw [hH, hlo] at goal
  exact goal
