variable {l : Launch} {D : va_G} {bd : Nat → Nat} {ce : Nat → ClassId} {adK adV : Nat → Nat} {tF : Nat} {tys : List (ClassId × FieldType)}

set_option maxHeartbeats 4000000 in
set_option maxRecDepth 100000 in
theorem c_Mod_matching (st : MS) (hv : mInv st) (h11 : gR st 11 = 0) : hx_Mv l D (tyM ce) adK adV tF (mdW bd ce) y_Mod_matching w_Mod_matching (rmD 3) [.ref (bd 0)] st (mMat st) := by
  refine hx_Mv.of (cc := b_Mod_matching) (maxL := 3) (by decide) rfl (Nat.le_of_ble_eq_true rfl) ?_
  intro p e s m below meth c A Q ls hI hX hA hP hD hS hl hret
  obtain ⟨hx, hb, hml, hown, hts⟩ := id hI
  have hts : ∀ w ∈ aw, w.before ([.ref (bd 0)] : List Value).toArray s = true := fun w h => hts w (List.mem_cons_of_mem _ h)
  have hown : s.vm.findClass "HeadDeskModel" = some m.cls := hown
  have hI : hx_In p s m ([.ref (bd 0)] : List Value).toArray c b_Mod_matching 3 "HeadDeskModel" aw := ⟨hx, hb, hml, hown, hts⟩
  have hP : va_P D vwCl (mdW bd ce st) s.heap := hP
  obtain ⟨H, hH⟩ : ∃ H, H = s.heap := ⟨_, rfl⟩
  obtain ⟨locs, hlo⟩ : ∃ locs : List Loc, locs = [] := ⟨_, rfl⟩
  have hS : va_S A s.heap H locs := by rw [hH, hlo]; exact hS
  have hP : va_P D vwCl (mdW bd ce st) H := by rw [hH]; exact hP
  have hl : lv_has ls 3 [(0, .ref (bd 0))] := hl
  have goal : W p l e (rmD 3) s m ([.ref (bd 0)] : List Value).toArray below meth c H locs 0 0 Q (F0 m 0 ls []) := by
    refine lv_aload_n hx hb d_Mod_matching_0 rfl (lv_at hl 0 rfl) ?_
    refine hx_Vi (wr := []) (As := []) (rest := []) hI (c_Mod_see st hv ) (cw_V (C := "HeadDeskModel") 0 hts m_3_109 m_3_111 ms_26 m_1_5 m_3_112 (by decide +kernel) ⟨by decide, by decide⟩) hX hA hP hD hS [0, 1, 2, 3, 4, 5, 6] [] rfl rfl (by decide) (by decide) (by decide) (va_recv hX.1 hP (ci := 4) (q0 := 0) rfl rfl) rfl hl.1 rfl (Nat.le_of_ble_eq_true rfl) d_Mod_matching_1 ⟨Nat.zero_le _, Nat.zero_le _⟩ (fun H locs hP hD hS => ?_)
    have hP : va_P D vwCl (mdW bd ce st) H := hP
    have hD : va_D A (mdW bd ce st) := hD
    refine lv_bipush (v := 42) hx hb d_Mod_matching_4 (by decide) ?_
    refine lv_icmp_ne (tgt := 25) hx hb d_Mod_matching_6 (by decide) (fun c_6 => ?_) (fun c_6 => ?_)
    · skip
      have c_6 : ¬ (mSee st = 42) := c_6
      refine lv_iconst (v := 1) hx hb d_Mod_matching_25 (by decide) ?_
      refine lv_istore_n (lv' := [(1, .int 1), (0, .ref (bd 0))]) hx hb d_Mod_matching_26 rfl hl (by decide) rfl (fun ls hl => ?_)
      have loop27 : ∀ (k : Nat) (j : Nat) (s1 : MS) (H : Heap) (locs : List Loc) (ls : Array Slot), j + k = 8 → j < 8 → gR s1 11 = nI j → mInv s1 → mMat st = mMtL k s1 → va_P D vwCl (mdW bd ce s1) H → va_D A (mdW bd ce s1) → va_S A s.heap H locs → lv_has ls 3 [(1, .int 1), (0, .ref (bd 0))] → W p l e (rmD 3) s m ([.ref (bd 0)] : List Value).toArray below meth c H locs 0 0 Q (F0 m 27 ls []) := by
        intro k
        induction k with
        | zero =>
          intro j s1 H locs ls hj hlt hm hv hF hP hD hS hl
          exact absurd hlt (by omega)
        | succ k ih =>
          intro j s1 H locs ls hj hlt hm hv hF hP hD hS hl
          refine lv_iload_n hx hb d_Mod_matching_27 rfl (lv_at hl 0 rfl) ?_
          refine lv_if_eq (tgt := 135) hx hb d_Mod_matching_28 (by decide) (fun c_28 => ?_) (fun c_28 => ?_)
          · skip
            exact absurd c_28 (by decide)
          · skip
            refine lv_aload_n hx hb d_Mod_matching_31 rfl (lv_at hl 1 rfl) ?_
            refine va_get (D := D) (ci := 4) (v := .int (gR s1 4)) (C := "HeadDeskModel") (T := F_Mod) (N := 38) hx hb hts a_Mod hown hX.1 hP 0 rfl rfl 5 (by decide) (hts _ m_2_222) (fun _ h9 => h9) rfl d_Mod_matching_32 ?_
            refine lv_if_ne (tgt := 135) hx hb d_Mod_matching_35 (by decide) (fun c_35 => ?_) (fun c_35 => ?_)
            · skip
              have c_35 : ¬ (gR s1 4 = 0) := c_35
              exact hret H locs s1 _ _ hP hD hS (by rw [hF]; (try simp only [mMtL, if_neg c_35, if_true, if_false, Bool.false_eq_true, ↓reduceIte]) <;> (try simp only [mMtA, if_neg c_35, if_true, if_false, Bool.false_eq_true, ↓reduceIte]) <;> (try simp only [mMtB, if_neg c_35, if_true, if_false, Bool.false_eq_true, ↓reduceIte]) <;> (try simp only [mMtC, if_neg c_35, if_true, if_false, Bool.false_eq_true, ↓reduceIte]) <;> (try simp only [mNx, if_neg c_35, if_true, if_false, Bool.false_eq_true, ↓reduceIte]) <;> (first | done | with_reducible rfl)) d_Mod_matching_135
            · skip
              have c_35 : (gR s1 4 = 0) := c_35
              refine lv_aload_n hx hb d_Mod_matching_38 rfl (lv_at hl 1 rfl) ?_
              refine lv_bipush (v := 34) hx hb d_Mod_matching_39 (by decide) ?_
              refine hx_Vz (wr := []) (As := [.int 34]) (rest := []) hI (c_Mod_expect s1 hv 34 (by decide)) (cw_V (C := "HeadDeskModel") 1 hts m_3_120 m_3_122 ms_28 m_1_5 m_3_123 (by decide +kernel) ⟨by decide, by decide⟩) hX hA hP hD hS [0, 1, 2, 3, 4, 5, 6] [] rfl rfl (by decide) (by decide) (by decide) (va_recv hX.1 hP (ci := 4) (q0 := 0) rfl rfl) rfl hl.1 rfl (Nat.le_of_ble_eq_true rfl) d_Mod_matching_41 ⟨Nat.zero_le _, Nat.zero_le _⟩ (fun H locs hP hD hS => ?_)
              obtain ⟨s_41, e_41⟩ : ∃ z : MS, z = (mExp s1 34).2 := ⟨_, rfl⟩
              have i_41 : mInv s_41 := by rw [e_41]; exact inv_exp hv (by decide)
              have hP : va_P D vwCl (mdW bd ce s_41) H := by rw [e_41]; exact hP
              have hD : va_D A (mdW bd ce s_41) := by rw [e_41]; exact hD
              refine lv_pop hx hb d_Mod_matching_44 rfl ?_
              refine lv_aload_n hx hb d_Mod_matching_45 rfl (lv_at hl 1 rfl) ?_
              refine lv_ldc (v := 99999) hx hb hown (hts _ m_3_166) d_Mod_matching_46 ?_
              refine hx_Vi (wr := []) (As := [.int 99999]) (rest := []) hI (c_Mod_number s_41 i_41 99999) (cw_V (C := "HeadDeskModel") 1 hts m_3_134 m_3_136 ms_31 m_1_5 m_3_137 (by decide +kernel) ⟨by decide, by decide⟩) hX hA hP hD hS [0, 1, 2, 3, 4, 5, 6] [] rfl rfl (by decide) (by decide) (by decide) (va_recv hX.1 hP (ci := 4) (q0 := 0) rfl rfl) rfl hl.1 rfl (Nat.le_of_ble_eq_true rfl) d_Mod_matching_48 ⟨Nat.zero_le _, Nat.zero_le _⟩ (fun H locs hP hD hS => ?_)
              obtain ⟨s_48, e_48⟩ : ∃ z : MS, z = (mNum s_41 99999).2 := ⟨_, rfl⟩
              have i_48 : mInv s_48 := by rw [e_48]; exact inv_num i_41
              have hP : va_P D vwCl (mdW bd ce s_48) H := by rw [e_48]; exact hP
              have hD : va_D A (mdW bd ce s_48) := by rw [e_48]; exact hD
              refine lv_istore_n (lv' := [(2, .int ((mNum s_41 99999).1)), (1, .int 1), (0, .ref (bd 0))]) hx hb d_Mod_matching_51 rfl hl (by decide) rfl (fun ls hl => ?_)
              refine lv_aload_n hx hb d_Mod_matching_52 rfl (lv_at hl 2 rfl) ?_
              refine lv_bipush (v := 34) hx hb d_Mod_matching_53 (by decide) ?_
              refine hx_Vz (wr := []) (As := [.int 34]) (rest := []) hI (c_Mod_expect s_48 i_48 34 (by decide)) (cw_V (C := "HeadDeskModel") 1 hts m_3_120 m_3_122 ms_28 m_1_5 m_3_123 (by decide +kernel) ⟨by decide, by decide⟩) hX hA hP hD hS [0, 1, 2, 3, 4, 5, 6] [] rfl rfl (by decide) (by decide) (by decide) (va_recv hX.1 hP (ci := 4) (q0 := 0) rfl rfl) rfl hl.1 rfl (Nat.le_of_ble_eq_true rfl) d_Mod_matching_55 ⟨Nat.zero_le _, Nat.zero_le _⟩ (fun H locs hP hD hS => ?_)
              obtain ⟨s_55, e_55⟩ : ∃ z : MS, z = (mExp s_48 34).2 := ⟨_, rfl⟩
              have i_55 : mInv s_55 := by rw [e_55]; exact inv_exp i_48 (by decide)
              have hP : va_P D vwCl (mdW bd ce s_55) H := by rw [e_55]; exact hP
              have hD : va_D A (mdW bd ce s_55) := by rw [e_55]; exact hD
              refine lv_pop hx hb d_Mod_matching_58 rfl ?_
              have h55 : gR s_55 11 = nI j := by rw [e_55, kq_exp.2 11 (by decide), e_48, kq_num.2 11 (by decide), e_41, kq_exp.2 11 (by decide)]; exact hm
              refine lv_aload_n hx hb d_Mod_matching_59 rfl (lv_at hl 2 rfl) ?_
              refine va_get (D := D) (ci := 4) (v := .int (gR s_55 4)) (C := "HeadDeskModel") (T := F_Mod) (N := 38) hx hb hts a_Mod hown hX.1 hP 0 rfl rfl 5 (by decide) (hts _ m_2_222) (fun _ h9 => h9) rfl d_Mod_matching_60 ?_
              refine lv_if_eq (tgt := 67) hx hb d_Mod_matching_63 (by decide) (fun c_63 => ?_) (fun c_63 => ?_)
              · skip
                have c_63 : (gR s_55 4 = 0) := c_63
                refine lv_aload_n hx hb d_Mod_matching_67 rfl (lv_at hl 2 rfl) ?_
                refine va_get (D := D) (ci := 4) (v := .ref (bd 2)) (C := "HeadDeskModel") (T := F_Mod) (N := 38) hx hb hts a_Mod hown hX.1 hP 0 rfl rfl 20 (by decide) (hts _ m_2_237) (fun _ h9 => h9) rfl d_Mod_matching_68 ?_
                refine lv_aload_n hx hb d_Mod_matching_71 rfl (lv_at hl 2 rfl) ?_
                refine va_get (D := D) (ci := 4) (v := .int (gR s_55 11)) (C := "HeadDeskModel") (T := F_Mod) (N := 38) hx hb hts a_Mod hown hX.1 hP 0 rfl rfl 12 (by decide) (hts _ m_2_229) (fun _ h9 => h9) rfl d_Mod_matching_72 ?_
                refine lv_iload_n hx hb d_Mod_matching_75 rfl (lv_at hl 0 rfl) ?_
                refine va_iast hx hb hX.1 hP hD hS 2 1 rfl rfl (mt_in h55 hlt) d_Mod_matching_76 (fun H locs hP hD hS => ?_)
                have hP : va_P D vwCl (mdW bd ce (wMt s_55 (upd (gMt s_55) (gR s_55 11).toNatClampNeg ((mNum s_41 99999).1)))) H := hP
                have hD : va_D A (mdW bd ce (wMt s_55 (upd (gMt s_55) (gR s_55 11).toNatClampNeg ((mNum s_41 99999).1)))) := hD
                refine lv_aload_n hx hb d_Mod_matching_77 rfl (lv_at hl 2 rfl) ?_
                refine lv_dup hx hb d_Mod_matching_78 rfl ?_
                refine va_get (D := D) (ci := 4) (v := .int (gR s_55 11)) (C := "HeadDeskModel") (T := F_Mod) (N := 38) hx hb hts a_Mod hown hX.1 hP 0 rfl rfl 12 (by decide) (hts _ m_2_229) (fun _ h9 => h9) rfl d_Mod_matching_79 ?_
                refine lv_iconst (v := 1) hx hb d_Mod_matching_82 (by decide) ?_
                refine lv_iadd hx hb d_Mod_matching_83 ?_
                refine va_put (D := D) (ci := 4) (v := .int ((gR s_55 11) + 1)) (ty := .int) (C := "HeadDeskModel") (T := F_Mod) (N := 38) hx hb hts a_Mod t_Mod k_Mod n_Mod hown hX.1 hP hD hS 0 rfl rfl 12 (by decide) (hts _ m_2_229) (fun _ h9 => h9) rfl (by decide +kernel) rfl rfl (Nat.le_of_ble_eq_true rfl) d_Mod_matching_84 (fun H locs hP hD hS => ?_)
                have hP : va_P D vwCl (mdW bd ce (wR (wMt s_55 (upd (gMt s_55) (gR s_55 11).toNatClampNeg ((mNum s_41 99999).1))) 11 ((gR s_55 11) + 1))) H := hP
                have hD : va_D A (mdW bd ce (wR (wMt s_55 (upd (gMt s_55) (gR s_55 11).toNatClampNeg ((mNum s_41 99999).1))) 11 ((gR s_55 11) + 1))) := hD
                obtain ⟨s_84, e_84⟩ : ∃ z : MS, z = wR (wMt s_55 (upd (gMt s_55) (gR s_55 11).toNatClampNeg ((mNum s_41 99999).1))) 11 ((gR s_55 11) + 1) := ⟨_, rfl⟩
                have hP : va_P D vwCl (mdW bd ce s_84) H := by rw [e_84]; exact hP
                have hD : va_D A (mdW bd ce s_84) := by rw [e_84]; exact hD
                have i_84 : mInv s_84 := by rw [e_84]; exact i_55
                have h84 : gR s_84 11 = nI (j + 1) := by rw [e_84]; exact mt_nx h55
                refine lv_aload_n hx hb d_Mod_matching_87 rfl (lv_at hl 2 rfl) ?_
                refine hx_Vi (wr := []) (As := []) (rest := []) hI (c_Mod_see s_84 i_84 ) (cw_V (C := "HeadDeskModel") 0 hts m_3_109 m_3_111 ms_26 m_1_5 m_3_112 (by decide +kernel) ⟨by decide, by decide⟩) hX hA hP hD hS [0, 1, 2, 3, 4, 5, 6] [] rfl rfl (by decide) (by decide) (by decide) (va_recv hX.1 hP (ci := 4) (q0 := 0) rfl rfl) rfl hl.1 rfl (Nat.le_of_ble_eq_true rfl) d_Mod_matching_88 ⟨Nat.zero_le _, Nat.zero_le _⟩ (fun H locs hP hD hS => ?_)
                have hP : va_P D vwCl (mdW bd ce s_84) H := hP
                have hD : va_D A (mdW bd ce s_84) := hD
                refine lv_bipush (v := 44) hx hb d_Mod_matching_91 (by decide) ?_
                refine lv_icmp_ne (tgt := 109) hx hb d_Mod_matching_93 (by decide) (fun c_93 => ?_) (fun c_93 => ?_)
                · skip
                  have c_93 : ¬ (mSee s_84 = 44) := c_93
                  refine lv_iconst (v := 0) hx hb d_Mod_matching_109 (by decide) ?_
                  refine lv_istore_n (lv' := [(1, .int 0), (2, .int ((mNum s_41 99999).1)), (0, .ref (bd 0))]) hx hb d_Mod_matching_110 rfl hl (by decide) rfl (fun ls hl => ?_)
                  refine lv_iload_n hx hb d_Mod_matching_111 rfl (lv_at hl 0 rfl) ?_
                  refine lv_if_eq (tgt := 132) hx hb d_Mod_matching_112 (by decide) (fun c_112 => ?_) (fun c_112 => ?_)
                  · skip
                    refine lv_goto (tgt := 27) hx hb d_Mod_matching_132 (by decide) ?_
                    refine lv_iload_n hx hb d_Mod_matching_27 rfl (lv_at hl 0 rfl) ?_
                    refine lv_if_eq (tgt := 135) hx hb d_Mod_matching_28 (by decide) (fun c_28 => ?_) (fun c_28 => ?_)
                    · skip
                      exact hret H locs s_84 _ _ hP hD hS (by rw [hF]; (try simp only [mMtL, if_pos c_35, if_pos c_63, if_neg c_93, ← e_41, ← e_48, ← e_55, ← e_84, if_true, if_false, Bool.false_eq_true, ↓reduceIte]) <;> (try simp only [mMtA, if_pos c_35, if_pos c_63, if_neg c_93, ← e_41, ← e_48, ← e_55, ← e_84, if_true, if_false, Bool.false_eq_true, ↓reduceIte]) <;> (try simp only [mMtB, if_pos c_35, if_pos c_63, if_neg c_93, ← e_41, ← e_48, ← e_55, ← e_84, if_true, if_false, Bool.false_eq_true, ↓reduceIte]) <;> (try simp only [mMtC, if_pos c_35, if_pos c_63, if_neg c_93, ← e_41, ← e_48, ← e_55, ← e_84, if_true, if_false, Bool.false_eq_true, ↓reduceIte]) <;> (try simp only [mNx, if_pos c_35, if_pos c_63, if_neg c_93, ← e_41, ← e_48, ← e_55, ← e_84, if_true, if_false, Bool.false_eq_true, ↓reduceIte]) <;> (first | done | with_reducible rfl | rw [e_84])) d_Mod_matching_135
                    · skip
                      exact absurd (by decide) c_28
                  · skip
                    exact absurd (by decide) c_112
                · skip
                  have c_93 : (mSee s_84 = 44) := c_93
                  refine lv_aload_n hx hb d_Mod_matching_96 rfl (lv_at hl 2 rfl) ?_
                  refine va_get (D := D) (ci := 4) (v := .int (gR s_84 11)) (C := "HeadDeskModel") (T := F_Mod) (N := 38) hx hb hts a_Mod hown hX.1 hP 0 rfl rfl 12 (by decide) (hts _ m_2_229) (fun _ h9 => h9) rfl d_Mod_matching_97 ?_
                  refine lv_bipush (v := 8) hx hb d_Mod_matching_100 (by decide) ?_
                  refine lv_icmp_ge (tgt := 109) hx hb d_Mod_matching_102 (by decide) (fun c_102 => ?_) (fun c_102 => ?_)
                  · skip
                    have c_102 : k = 0 := kz0 hj (by rw [← h84]; exact c_102)
                    refine lv_iconst (v := 0) hx hb d_Mod_matching_109 (by decide) ?_
                    refine lv_istore_n (lv' := [(1, .int 0), (2, .int ((mNum s_41 99999).1)), (0, .ref (bd 0))]) hx hb d_Mod_matching_110 rfl hl (by decide) rfl (fun ls hl => ?_)
                    refine lv_iload_n hx hb d_Mod_matching_111 rfl (lv_at hl 0 rfl) ?_
                    refine lv_if_eq (tgt := 132) hx hb d_Mod_matching_112 (by decide) (fun c_112 => ?_) (fun c_112 => ?_)
                    · skip
                      refine lv_goto (tgt := 27) hx hb d_Mod_matching_132 (by decide) ?_
                      refine lv_iload_n hx hb d_Mod_matching_27 rfl (lv_at hl 0 rfl) ?_
                      refine lv_if_eq (tgt := 135) hx hb d_Mod_matching_28 (by decide) (fun c_28 => ?_) (fun c_28 => ?_)
                      · skip
                        exact hret H locs s_84 _ _ hP hD hS (by rw [hF]; (try simp only [mMtL, if_pos c_35, if_pos c_63, if_pos c_93, if_pos c_102, ← e_41, ← e_48, ← e_55, ← e_84, if_true, if_false, Bool.false_eq_true, ↓reduceIte]) <;> (try simp only [mMtA, if_pos c_35, if_pos c_63, if_pos c_93, if_pos c_102, ← e_41, ← e_48, ← e_55, ← e_84, if_true, if_false, Bool.false_eq_true, ↓reduceIte]) <;> (try simp only [mMtB, if_pos c_35, if_pos c_63, if_pos c_93, if_pos c_102, ← e_41, ← e_48, ← e_55, ← e_84, if_true, if_false, Bool.false_eq_true, ↓reduceIte]) <;> (try simp only [mMtC, if_pos c_35, if_pos c_63, if_pos c_93, if_pos c_102, ← e_41, ← e_48, ← e_55, ← e_84, if_true, if_false, Bool.false_eq_true, ↓reduceIte]) <;> (try simp only [mNx, if_pos c_35, if_pos c_63, if_pos c_93, if_pos c_102, ← e_41, ← e_48, ← e_55, ← e_84, if_true, if_false, Bool.false_eq_true, ↓reduceIte]) <;> (first | done | with_reducible rfl | rw [e_84])) d_Mod_matching_135
                      · skip
                        exact absurd (by decide) c_28
                    · skip
                      exact absurd (by decide) c_112
                  · skip
                    have c_102 : ¬ k = 0 := kz1 hj (by rw [← h84]; exact c_102)
                    refine lv_iconst (v := 1) hx hb d_Mod_matching_105 (by decide) ?_
                    refine lv_goto (tgt := 110) hx hb d_Mod_matching_106 (by decide) ?_
                    refine lv_istore_n (lv' := [(1, .int 1), (2, .int ((mNum s_41 99999).1)), (0, .ref (bd 0))]) hx hb d_Mod_matching_110 rfl hl (by decide) rfl (fun ls hl => ?_)
                    refine lv_iload_n hx hb d_Mod_matching_111 rfl (lv_at hl 0 rfl) ?_
                    refine lv_if_eq (tgt := 132) hx hb d_Mod_matching_112 (by decide) (fun c_112 => ?_) (fun c_112 => ?_)
                    · skip
                      exact absurd c_112 (by decide)
                    · skip
                      refine lv_aload_n hx hb d_Mod_matching_115 rfl (lv_at hl 2 rfl) ?_
                      refine lv_dup hx hb d_Mod_matching_116 rfl ?_
                      refine va_get (D := D) (ci := 4) (v := .int (gR s_84 3)) (C := "HeadDeskModel") (T := F_Mod) (N := 38) hx hb hts a_Mod hown hX.1 hP 0 rfl rfl 4 (by decide) (hts _ m_2_221) (fun _ h9 => h9) rfl d_Mod_matching_117 ?_
                      refine lv_iconst (v := 1) hx hb d_Mod_matching_120 (by decide) ?_
                      refine lv_iadd hx hb d_Mod_matching_121 ?_
                      refine va_put (D := D) (ci := 4) (v := .int ((gR s_84 3) + 1)) (ty := .int) (C := "HeadDeskModel") (T := F_Mod) (N := 38) hx hb hts a_Mod t_Mod k_Mod n_Mod hown hX.1 hP hD hS 0 rfl rfl 4 (by decide) (hts _ m_2_221) (fun _ h9 => h9) rfl (by decide +kernel) rfl rfl (Nat.le_of_ble_eq_true rfl) d_Mod_matching_122 (fun H locs hP hD hS => ?_)
                      have hP : va_P D vwCl (mdW bd ce (wR s_84 3 ((gR s_84 3) + 1))) H := hP
                      have hD : va_D A (mdW bd ce (wR s_84 3 ((gR s_84 3) + 1))) := hD
                      have i_122 : mInv (wR s_84 3 ((gR s_84 3) + 1)) := inv_nx (s := s_84) i_84 (see_lt c_93 (by decide))
                      obtain ⟨s_122, e_122⟩ : ∃ z : MS, z = wR s_84 3 ((gR s_84 3) + 1) := ⟨_, rfl⟩
                      have hP : va_P D vwCl (mdW bd ce s_122) H := by rw [e_122]; exact hP
                      have hD : va_D A (mdW bd ce s_122) := by rw [e_122]; exact hD
                      have i_122 : mInv s_122 := by rw [e_122]; exact i_122
                      refine lv_aload_n hx hb d_Mod_matching_125 rfl (lv_at hl 2 rfl) ?_
                      refine lv_bipush (v := 32) hx hb d_Mod_matching_126 (by decide) ?_
                      refine hx_Vz (wr := []) (As := [.int 32]) (rest := []) hI (c_Mod_expect s_122 i_122 32 (by decide)) (cw_V (C := "HeadDeskModel") 1 hts m_3_120 m_3_122 ms_28 m_1_5 m_3_123 (by decide +kernel) ⟨by decide, by decide⟩) hX hA hP hD hS [0, 1, 2, 3, 4, 5, 6] [] rfl rfl (by decide) (by decide) (by decide) (va_recv hX.1 hP (ci := 4) (q0 := 0) rfl rfl) rfl hl.1 rfl (Nat.le_of_ble_eq_true rfl) d_Mod_matching_128 ⟨Nat.zero_le _, Nat.zero_le _⟩ (fun H locs hP hD hS => ?_)
                      obtain ⟨s_128, e_128⟩ : ∃ z : MS, z = (mExp s_122 32).2 := ⟨_, rfl⟩
                      have i_128 : mInv s_128 := by rw [e_128]; exact inv_exp i_122 (by decide)
                      have hP : va_P D vwCl (mdW bd ce s_128) H := by rw [e_128]; exact hP
                      have hD : va_D A (mdW bd ce s_128) := by rw [e_128]; exact hD
                      refine lv_pop hx hb d_Mod_matching_131 rfl ?_
                      refine lv_goto (tgt := 27) hx hb d_Mod_matching_132 (by decide) ?_
                      exact ih (j + 1) s_128 H locs ls (by omega) (by omega) (by rw [e_128, kq_exp.2 11 (by decide), e_122]; exact h84) i_128 (by rw [hF]; (try simp only [mMtL, if_pos c_35, if_pos c_63, if_pos c_93, if_neg c_102, ← e_41, ← e_48, ← e_55, ← e_84, ← e_122, ← e_128, if_true, if_false, Bool.false_eq_true, ↓reduceIte]) <;> (try simp only [mMtA, if_pos c_35, if_pos c_63, if_pos c_93, if_neg c_102, ← e_41, ← e_48, ← e_55, ← e_84, ← e_122, ← e_128, if_true, if_false, Bool.false_eq_true, ↓reduceIte]) <;> (try simp only [mMtB, if_pos c_35, if_pos c_63, if_pos c_93, if_neg c_102, ← e_41, ← e_48, ← e_55, ← e_84, ← e_122, ← e_128, if_true, if_false, Bool.false_eq_true, ↓reduceIte]) <;> (try simp only [mMtC, if_pos c_35, if_pos c_63, if_pos c_93, if_neg c_102, ← e_41, ← e_48, ← e_55, ← e_84, ← e_122, ← e_128, if_true, if_false, Bool.false_eq_true, ↓reduceIte]) <;> (try simp only [mNx, if_pos c_35, if_pos c_63, if_pos c_93, if_neg c_102, ← e_41, ← e_48, ← e_55, ← e_84, ← e_122, ← e_128, if_true, if_false, Bool.false_eq_true, ↓reduceIte]) <;> (first | done | with_reducible rfl | rw [e_128])) hP hD hS (lv_sub hl [0, 2] rfl)
              · skip
                have c_63 : ¬ (gR s_55 4 = 0) := c_63
                exact hret H locs s_55 _ _ hP hD hS (by rw [hF]; (try simp only [mMtL, if_pos c_35, if_neg c_63, ← e_41, ← e_48, ← e_55, if_true, if_false, Bool.false_eq_true, ↓reduceIte]) <;> (try simp only [mMtA, if_pos c_35, if_neg c_63, ← e_41, ← e_48, ← e_55, if_true, if_false, Bool.false_eq_true, ↓reduceIte]) <;> (try simp only [mMtB, if_pos c_35, if_neg c_63, ← e_41, ← e_48, ← e_55, if_true, if_false, Bool.false_eq_true, ↓reduceIte]) <;> (try simp only [mMtC, if_pos c_35, if_neg c_63, ← e_41, ← e_48, ← e_55, if_true, if_false, Bool.false_eq_true, ↓reduceIte]) <;> (try simp only [mNx, if_pos c_35, if_neg c_63, ← e_41, ← e_48, ← e_55, if_true, if_false, Bool.false_eq_true, ↓reduceIte]) <;> (first | done | with_reducible rfl | rw [e_55])) d_Mod_matching_66
      exact loop27 8 0 st H locs ls (by omega) (by omega) h11 hv (by simp only [mMat, if_neg c_6]) hP hD hS (lv_sub hl [0, 1] rfl)
    · skip
      have c_6 : (mSee st = 42) := c_6
      refine lv_aload_n hx hb d_Mod_matching_9 rfl (lv_at hl 0 rfl) ?_
      refine lv_dup hx hb d_Mod_matching_10 rfl ?_
      refine va_get (D := D) (ci := 4) (v := .int (gR st 3)) (C := "HeadDeskModel") (T := F_Mod) (N := 38) hx hb hts a_Mod hown hX.1 hP 0 rfl rfl 4 (by decide) (hts _ m_2_221) (fun _ h9 => h9) rfl d_Mod_matching_11 ?_
      refine lv_iconst (v := 1) hx hb d_Mod_matching_14 (by decide) ?_
      refine lv_iadd hx hb d_Mod_matching_15 ?_
      refine va_put (D := D) (ci := 4) (v := .int ((gR st 3) + 1)) (ty := .int) (C := "HeadDeskModel") (T := F_Mod) (N := 38) hx hb hts a_Mod t_Mod k_Mod n_Mod hown hX.1 hP hD hS 0 rfl rfl 4 (by decide) (hts _ m_2_221) (fun _ h9 => h9) rfl (by decide +kernel) rfl rfl (Nat.le_of_ble_eq_true rfl) d_Mod_matching_16 (fun H locs hP hD hS => ?_)
      have hP : va_P D vwCl (mdW bd ce (wR st 3 ((gR st 3) + 1))) H := hP
      have hD : va_D A (mdW bd ce (wR st 3 ((gR st 3) + 1))) := hD
      have i_16 : mInv (wR st 3 ((gR st 3) + 1)) := inv_nx (s := st) hv (see_lt c_6 (by decide))
      obtain ⟨s_16, e_16⟩ : ∃ z : MS, z = wR st 3 ((gR st 3) + 1) := ⟨_, rfl⟩
      have hP : va_P D vwCl (mdW bd ce s_16) H := by rw [e_16]; exact hP
      have hD : va_D A (mdW bd ce s_16) := by rw [e_16]; exact hD
      have i_16 : mInv s_16 := by rw [e_16]; exact i_16
      refine lv_aload_n hx hb d_Mod_matching_19 rfl (lv_at hl 0 rfl) ?_
      refine lv_iconst (v := 1) hx hb d_Mod_matching_20 (by decide) ?_
      refine va_put (D := D) (ci := 4) (v := .int 1) (ty := .boolean) (C := "HeadDeskModel") (T := F_Mod) (N := 38) hx hb hts a_Mod t_Mod k_Mod n_Mod hown hX.1 hP hD hS 0 rfl rfl 17 (by decide) (hts _ m_2_234) (fun _ h9 => h9) rfl (by decide +kernel) rfl rfl (Nat.le_of_ble_eq_true rfl) d_Mod_matching_21 (fun H locs hP hD hS => ?_)
      have hP : va_P D vwCl (mdW bd ce (wR s_16 16 1)) H := hP
      have hD : va_D A (mdW bd ce (wR s_16 16 1)) := hD
      obtain ⟨s_21, e_21⟩ : ∃ z : MS, z = wR s_16 16 1 := ⟨_, rfl⟩
      have hP : va_P D vwCl (mdW bd ce s_21) H := by rw [e_21]; exact hP
      have hD : va_D A (mdW bd ce s_21) := by rw [e_21]; exact hD
      have i_21 : mInv s_21 := by rw [e_21]; exact i_16
      exact hret H locs s_21 _ _ hP hD hS (by (try simp only [mMat, if_pos c_6, ← e_16, ← e_21, if_true, if_false, Bool.false_eq_true, ↓reduceIte]) <;> (try simp only [mNx, if_pos c_6, ← e_16, ← e_21, if_true, if_false, Bool.false_eq_true, ↓reduceIte]) <;> (first | done | with_reducible rfl | rw [e_21])) d_Mod_matching_24
  rw [hH, hlo] at goal
  exact goal
set_option maxHeartbeats 4000000 in
set_option maxRecDepth 100000 in
theorem c_Mod_requestWord (st : MS) (hv : mInv st) (hw : wInv st) : hx_Mv l D (tyM ce) adK adV tF (mdW bd ce) y_Mod_requestWord w_Mod_requestWord (rmD 6) [.ref (bd 0)] st (mReq st) := by
  refine hx_Mv.of (cc := b_Mod_requestWord) (maxL := 2) (by decide) rfl (Nat.le_of_ble_eq_true rfl) ?_
  intro p e s m below meth c A Q ls hI hX hA hP hD hS hl hret
  obtain ⟨hx, hb, hml, hown, hts⟩ := id hI
  have hts : ∀ w ∈ aw, w.before ([.ref (bd 0)] : List Value).toArray s = true := fun w h => hts w (List.mem_cons_of_mem _ h)
  have hown : s.vm.findClass "HeadDeskModel" = some m.cls := hown
  have hI : hx_In p s m ([.ref (bd 0)] : List Value).toArray c b_Mod_requestWord 2 "HeadDeskModel" aw := ⟨hx, hb, hml, hown, hts⟩
  have hP : va_P D vwCl (mdW bd ce st) s.heap := hP
  obtain ⟨H, hH⟩ : ∃ H, H = s.heap := ⟨_, rfl⟩
  obtain ⟨locs, hlo⟩ : ∃ locs : List Loc, locs = [] := ⟨_, rfl⟩
  have hS : va_S A s.heap H locs := by rw [hH, hlo]; exact hS
  have hP : va_P D vwCl (mdW bd ce st) H := by rw [hH]; exact hP
  have hl : lv_has ls 2 [(0, .ref (bd 0))] := hl
  have goal : W p l e (rmD 6) s m ([.ref (bd 0)] : List Value).toArray below meth c H locs 0 0 Q (F0 m 0 ls []) := by
    refine lv_aload_n hx hb d_Mod_requestWord_0 rfl (lv_at hl 0 rfl) ?_
    refine va_get (D := D) (ci := 4) (v := .int (gR st 31)) (C := "HeadDeskModel") (T := F_Mod) (N := 38) hx hb hts a_Mod hown hX.1 hP 0 rfl rfl 37 (by decide) (hts _ m_3_14) (fun _ h9 => h9) rfl d_Mod_requestWord_1 ?_
    refine lv_iconst (v := (-1)) hx hb d_Mod_requestWord_4 (by decide) ?_
    refine lv_icmp_eq (tgt := 12) hx hb d_Mod_requestWord_5 (by decide) (fun c_5 => ?_) (fun c_5 => ?_)
    · skip
      have c_5 : (gR st 31 = (-1)) := c_5
      refine lv_iconst (v := 0) hx hb d_Mod_requestWord_12 (by decide) ?_
      refine lv_istore_n (lv' := [(1, .int 0), (0, .ref (bd 0))]) hx hb d_Mod_requestWord_13 rfl hl (by decide) rfl (fun ls hl => ?_)
      refine lv_iload_n hx hb d_Mod_requestWord_14 rfl (lv_at hl 0 rfl) ?_
      refine lv_if_ne (tgt := 32) hx hb d_Mod_requestWord_15 (by decide) (fun c_15 => ?_) (fun c_15 => ?_)
      · skip
        exact absurd (by decide) c_15
      · skip
        refine lv_aload_n hx hb d_Mod_requestWord_18 rfl (lv_at hl 1 rfl) ?_
        refine va_ldcS hx hb hown (hX.2.2.2.2.2.1 _ _ _ _ st_26) d_Mod_requestWord_19 ?_
        refine hx_Vz (wr := []) (As := [.ref (adK 26)]) (rest := []) hI (c_Mod_isWordL st hv hw (by decide) sw_26) (cw_V (C := "HeadDeskModel") 1 hts m_3_182 m_3_184 ms_40 m_1_5 m_3_185 (by decide +kernel) ⟨by decide, by decide⟩) hX hA hP hD hS [0, 1, 2, 3, 4, 5, 6] [] rfl rfl (by decide) (by decide) (by decide) (va_recv hX.1 hP (ci := 4) (q0 := 0) rfl rfl) rfl hl.1 rfl (Nat.le_of_ble_eq_true rfl) d_Mod_requestWord_21 ⟨Nat.zero_le _, Nat.zero_le _⟩ (fun H locs hP hD hS => ?_)
        have hP : va_P D vwCl (mdW bd ce st) H := hP
        have hD : va_D A (mdW bd ce st) := hD
        refine lv_if_eq (tgt := 32) hx hb d_Mod_requestWord_24 (by decide) (fun c_24 => ?_) (fun c_24 => ?_)
        · skip
          have c_24 : (mIsW st t_no_cache) = false := bI_0 c_24
          refine lv_iload_n hx hb d_Mod_requestWord_32 rfl (lv_at hl 0 rfl) ?_
          refine lv_if_ne (tgt := 50) hx hb d_Mod_requestWord_33 (by decide) (fun c_33 => ?_) (fun c_33 => ?_)
          · skip
            exact absurd (by decide) c_33
          · skip
            refine lv_aload_n hx hb d_Mod_requestWord_36 rfl (lv_at hl 1 rfl) ?_
            refine va_ldcS hx hb hown (hX.2.2.2.2.2.1 _ _ _ _ st_27) d_Mod_requestWord_37 ?_
            refine hx_Vz (wr := []) (As := [.ref (adK 27)]) (rest := []) hI (c_Mod_isWordL st hv hw (by decide) sw_27) (cw_V (C := "HeadDeskModel") 1 hts m_3_182 m_3_184 ms_40 m_1_5 m_3_185 (by decide +kernel) ⟨by decide, by decide⟩) hX hA hP hD hS [0, 1, 2, 3, 4, 5, 6] [] rfl rfl (by decide) (by decide) (by decide) (va_recv hX.1 hP (ci := 4) (q0 := 0) rfl rfl) rfl hl.1 rfl (Nat.le_of_ble_eq_true rfl) d_Mod_requestWord_39 ⟨Nat.zero_le _, Nat.zero_le _⟩ (fun H locs hP hD hS => ?_)
            have hP : va_P D vwCl (mdW bd ce st) H := hP
            have hD : va_D A (mdW bd ce st) := hD
            refine lv_if_eq (tgt := 50) hx hb d_Mod_requestWord_42 (by decide) (fun c_42 => ?_) (fun c_42 => ?_)
            · skip
              have c_42 : (mIsW st t_only_if_cached) = false := bI_0 c_42
              refine lv_iload_n hx hb d_Mod_requestWord_50 rfl (lv_at hl 0 rfl) ?_
              refine lv_if_eq (tgt := 71) hx hb d_Mod_requestWord_51 (by decide) (fun c_51 => ?_) (fun c_51 => ?_)
              · skip
                refine lv_aload_n hx hb d_Mod_requestWord_71 rfl (lv_at hl 1 rfl) ?_
                refine va_ldcS hx hb hown (hX.2.2.2.2.2.1 _ _ _ _ st_29) d_Mod_requestWord_72 ?_
                refine hx_Vz (wr := []) (As := [.ref (adK 29)]) (rest := []) hI (c_Mod_isWordL st hv hw (by decide) sw_29) (cw_V (C := "HeadDeskModel") 1 hts m_3_182 m_3_184 ms_40 m_1_5 m_3_185 (by decide +kernel) ⟨by decide, by decide⟩) hX hA hP hD hS [0, 1, 2, 3, 4, 5, 6] [] rfl rfl (by decide) (by decide) (by decide) (va_recv hX.1 hP (ci := 4) (q0 := 0) rfl rfl) rfl hl.1 rfl (Nat.le_of_ble_eq_true rfl) d_Mod_requestWord_74 ⟨Nat.zero_le _, Nat.zero_le _⟩ (fun H locs hP hD hS => ?_)
                have hP : va_P D vwCl (mdW bd ce st) H := hP
                have hD : va_D A (mdW bd ce st) := hD
                refine lv_if_eq (tgt := 97) hx hb d_Mod_requestWord_77 (by decide) (fun c_77 => ?_) (fun c_77 => ?_)
                · skip
                  have c_77 : (mIsW st t_max_stale) = false := bI_0 c_77
                  refine lv_iload_n hx hb d_Mod_requestWord_97 rfl (lv_at hl 0 rfl) ?_
                  refine lv_if_eq (tgt := 118) hx hb d_Mod_requestWord_98 (by decide) (fun c_98 => ?_) (fun c_98 => ?_)
                  · skip
                    exact hret H locs st _ _ hP hD hS (by (try simp only [mReq, if_pos c_5, c_24, c_42, c_77, if_true, if_false, Bool.false_eq_true, ↓reduceIte]) <;> (try simp only [mRB0, if_pos c_5, c_24, c_42, c_77, if_true, if_false, Bool.false_eq_true, ↓reduceIte]) <;> (try simp only [mRB1, if_pos c_5, c_24, c_42, c_77, if_true, if_false, Bool.false_eq_true, ↓reduceIte]) <;> (try simp only [mRB2, if_pos c_5, c_24, c_42, c_77, if_true, if_false, Bool.false_eq_true, ↓reduceIte]) <;> (try simp only [mRH0, if_pos c_5, c_24, c_42, c_77, if_true, if_false, Bool.false_eq_true, ↓reduceIte]) <;> (try simp only [mRH1, if_pos c_5, c_24, c_42, c_77, if_true, if_false, Bool.false_eq_true, ↓reduceIte]) <;> (try simp only [mRH2, if_pos c_5, c_24, c_42, c_77, if_true, if_false, Bool.false_eq_true, ↓reduceIte]) <;> (first | done | with_reducible rfl)) d_Mod_requestWord_118
                  · skip
                    exact absurd (by decide) c_98
                · skip
                  have c_77 : (mIsW st t_max_stale) = true := bI_1 c_77
                  refine lv_aload_n hx hb d_Mod_requestWord_80 rfl (lv_at hl 1 rfl) ?_
                  refine lv_iload_n hx hb d_Mod_requestWord_81 rfl (lv_at hl 0 rfl) ?_
                  refine lv_if_eq (tgt := 92) hx hb d_Mod_requestWord_82 (by decide) (fun c_82 => ?_) (fun c_82 => ?_)
                  · skip
                    refine lv_bipush (v := (-2)) hx hb d_Mod_requestWord_92 (by decide) ?_
                    refine va_put (D := D) (ci := 4) (v := .int (-2)) (ty := .int) (C := "HeadDeskModel") (T := F_Mod) (N := 38) hx hb hts a_Mod t_Mod k_Mod n_Mod hown hX.1 hP hD hS 0 rfl rfl 14 (by decide) (hts _ m_2_231) (fun _ h9 => h9) rfl (by decide +kernel) rfl rfl (Nat.le_of_ble_eq_true rfl) d_Mod_requestWord_94 (fun H locs hP hD hS => ?_)
                    have hP : va_P D vwCl (mdW bd ce (wR st 13 (-2))) H := hP
                    have hD : va_D A (mdW bd ce (wR st 13 (-2))) := hD
                    obtain ⟨s_94, e_94⟩ : ∃ z : MS, z = wR st 13 (-2) := ⟨_, rfl⟩
                    have hP : va_P D vwCl (mdW bd ce s_94) H := by rw [e_94]; exact hP
                    have hD : va_D A (mdW bd ce s_94) := by rw [e_94]; exact hD
                    have i_94 : mInv s_94 := by rw [e_94]; exact hv
                    have j_94 : wInv s_94 := by rw [e_94]; exact hw
                    refine lv_iload_n hx hb d_Mod_requestWord_97 rfl (lv_at hl 0 rfl) ?_
                    refine lv_if_eq (tgt := 118) hx hb d_Mod_requestWord_98 (by decide) (fun c_98 => ?_) (fun c_98 => ?_)
                    · skip
                      exact hret H locs s_94 _ _ hP hD hS (by (try simp only [mReq, if_pos c_5, c_24, c_42, c_77, ← e_94, if_true, if_false, Bool.false_eq_true, ↓reduceIte]) <;> (try simp only [mRB0, if_pos c_5, c_24, c_42, c_77, ← e_94, if_true, if_false, Bool.false_eq_true, ↓reduceIte]) <;> (try simp only [mRB1, if_pos c_5, c_24, c_42, c_77, ← e_94, if_true, if_false, Bool.false_eq_true, ↓reduceIte]) <;> (try simp only [mRB2, if_pos c_5, c_24, c_42, c_77, ← e_94, if_true, if_false, Bool.false_eq_true, ↓reduceIte]) <;> (try simp only [mRH0, if_pos c_5, c_24, c_42, c_77, ← e_94, if_true, if_false, Bool.false_eq_true, ↓reduceIte]) <;> (try simp only [mRH1, if_pos c_5, c_24, c_42, c_77, ← e_94, if_true, if_false, Bool.false_eq_true, ↓reduceIte]) <;> (try simp only [mRH2, if_pos c_5, c_24, c_42, c_77, ← e_94, if_true, if_false, Bool.false_eq_true, ↓reduceIte]) <;> (first | done | with_reducible rfl | rw [e_94])) d_Mod_requestWord_118
                    · skip
                      exact absurd (by decide) c_98
                  · skip
                    exact absurd (by decide) c_82
              · skip
                exact absurd (by decide) c_51
            · skip
              have c_42 : (mIsW st t_only_if_cached) = true := bI_1 c_42
              refine lv_aload_n hx hb d_Mod_requestWord_45 rfl (lv_at hl 1 rfl) ?_
              refine lv_iconst (v := 1) hx hb d_Mod_requestWord_46 (by decide) ?_
              refine va_put (D := D) (ci := 4) (v := .int 1) (ty := .boolean) (C := "HeadDeskModel") (T := F_Mod) (N := 38) hx hb hts a_Mod t_Mod k_Mod n_Mod hown hX.1 hP hD hS 0 rfl rfl 19 (by decide) (hts _ m_2_236) (fun _ h9 => h9) rfl (by decide +kernel) rfl rfl (Nat.le_of_ble_eq_true rfl) d_Mod_requestWord_47 (fun H locs hP hD hS => ?_)
              have hP : va_P D vwCl (mdW bd ce (wR st 18 1)) H := hP
              have hD : va_D A (mdW bd ce (wR st 18 1)) := hD
              obtain ⟨s_47, e_47⟩ : ∃ z : MS, z = wR st 18 1 := ⟨_, rfl⟩
              have hP : va_P D vwCl (mdW bd ce s_47) H := by rw [e_47]; exact hP
              have hD : va_D A (mdW bd ce s_47) := by rw [e_47]; exact hD
              have i_47 : mInv s_47 := by rw [e_47]; exact hv
              have j_47 : wInv s_47 := by rw [e_47]; exact hw
              refine lv_iload_n hx hb d_Mod_requestWord_50 rfl (lv_at hl 0 rfl) ?_
              refine lv_if_eq (tgt := 71) hx hb d_Mod_requestWord_51 (by decide) (fun c_51 => ?_) (fun c_51 => ?_)
              · skip
                refine lv_aload_n hx hb d_Mod_requestWord_71 rfl (lv_at hl 1 rfl) ?_
                refine va_ldcS hx hb hown (hX.2.2.2.2.2.1 _ _ _ _ st_29) d_Mod_requestWord_72 ?_
                refine hx_Vz (wr := []) (As := [.ref (adK 29)]) (rest := []) hI (c_Mod_isWordL s_47 i_47 j_47 (by decide) sw_29) (cw_V (C := "HeadDeskModel") 1 hts m_3_182 m_3_184 ms_40 m_1_5 m_3_185 (by decide +kernel) ⟨by decide, by decide⟩) hX hA hP hD hS [0, 1, 2, 3, 4, 5, 6] [] rfl rfl (by decide) (by decide) (by decide) (va_recv hX.1 hP (ci := 4) (q0 := 0) rfl rfl) rfl hl.1 rfl (Nat.le_of_ble_eq_true rfl) d_Mod_requestWord_74 ⟨Nat.zero_le _, Nat.zero_le _⟩ (fun H locs hP hD hS => ?_)
                have hP : va_P D vwCl (mdW bd ce s_47) H := hP
                have hD : va_D A (mdW bd ce s_47) := hD
                refine lv_if_eq (tgt := 97) hx hb d_Mod_requestWord_77 (by decide) (fun c_77 => ?_) (fun c_77 => ?_)
                · skip
                  have c_77 : (mIsW s_47 t_max_stale) = false := bI_0 c_77
                  refine lv_iload_n hx hb d_Mod_requestWord_97 rfl (lv_at hl 0 rfl) ?_
                  refine lv_if_eq (tgt := 118) hx hb d_Mod_requestWord_98 (by decide) (fun c_98 => ?_) (fun c_98 => ?_)
                  · skip
                    exact hret H locs s_47 _ _ hP hD hS (by (try simp only [mReq, if_pos c_5, c_24, c_42, c_77, ← e_47, if_true, if_false, Bool.false_eq_true, ↓reduceIte]) <;> (try simp only [mRB0, if_pos c_5, c_24, c_42, c_77, ← e_47, if_true, if_false, Bool.false_eq_true, ↓reduceIte]) <;> (try simp only [mRB1, if_pos c_5, c_24, c_42, c_77, ← e_47, if_true, if_false, Bool.false_eq_true, ↓reduceIte]) <;> (try simp only [mRB2, if_pos c_5, c_24, c_42, c_77, ← e_47, if_true, if_false, Bool.false_eq_true, ↓reduceIte]) <;> (try simp only [mRH0, if_pos c_5, c_24, c_42, c_77, ← e_47, if_true, if_false, Bool.false_eq_true, ↓reduceIte]) <;> (try simp only [mRH1, if_pos c_5, c_24, c_42, c_77, ← e_47, if_true, if_false, Bool.false_eq_true, ↓reduceIte]) <;> (try simp only [mRH2, if_pos c_5, c_24, c_42, c_77, ← e_47, if_true, if_false, Bool.false_eq_true, ↓reduceIte]) <;> (first | done | with_reducible rfl | rw [e_47])) d_Mod_requestWord_118
                  · skip
                    exact absurd (by decide) c_98
                · skip
                  have c_77 : (mIsW s_47 t_max_stale) = true := bI_1 c_77
                  refine lv_aload_n hx hb d_Mod_requestWord_80 rfl (lv_at hl 1 rfl) ?_
                  refine lv_iload_n hx hb d_Mod_requestWord_81 rfl (lv_at hl 0 rfl) ?_
                  refine lv_if_eq (tgt := 92) hx hb d_Mod_requestWord_82 (by decide) (fun c_82 => ?_) (fun c_82 => ?_)
                  · skip
                    refine lv_bipush (v := (-2)) hx hb d_Mod_requestWord_92 (by decide) ?_
                    refine va_put (D := D) (ci := 4) (v := .int (-2)) (ty := .int) (C := "HeadDeskModel") (T := F_Mod) (N := 38) hx hb hts a_Mod t_Mod k_Mod n_Mod hown hX.1 hP hD hS 0 rfl rfl 14 (by decide) (hts _ m_2_231) (fun _ h9 => h9) rfl (by decide +kernel) rfl rfl (Nat.le_of_ble_eq_true rfl) d_Mod_requestWord_94 (fun H locs hP hD hS => ?_)
                    have hP : va_P D vwCl (mdW bd ce (wR s_47 13 (-2))) H := hP
                    have hD : va_D A (mdW bd ce (wR s_47 13 (-2))) := hD
                    obtain ⟨s_94, e_94⟩ : ∃ z : MS, z = wR s_47 13 (-2) := ⟨_, rfl⟩
                    have hP : va_P D vwCl (mdW bd ce s_94) H := by rw [e_94]; exact hP
                    have hD : va_D A (mdW bd ce s_94) := by rw [e_94]; exact hD
                    have i_94 : mInv s_94 := by rw [e_94]; exact i_47
                    have j_94 : wInv s_94 := by rw [e_94]; exact j_47
                    refine lv_iload_n hx hb d_Mod_requestWord_97 rfl (lv_at hl 0 rfl) ?_
                    refine lv_if_eq (tgt := 118) hx hb d_Mod_requestWord_98 (by decide) (fun c_98 => ?_) (fun c_98 => ?_)
                    · skip
                      exact hret H locs s_94 _ _ hP hD hS (by (try simp only [mReq, if_pos c_5, c_24, c_42, c_77, ← e_47, ← e_94, if_true, if_false, Bool.false_eq_true, ↓reduceIte]) <;> (try simp only [mRB0, if_pos c_5, c_24, c_42, c_77, ← e_47, ← e_94, if_true, if_false, Bool.false_eq_true, ↓reduceIte]) <;> (try simp only [mRB1, if_pos c_5, c_24, c_42, c_77, ← e_47, ← e_94, if_true, if_false, Bool.false_eq_true, ↓reduceIte]) <;> (try simp only [mRB2, if_pos c_5, c_24, c_42, c_77, ← e_47, ← e_94, if_true, if_false, Bool.false_eq_true, ↓reduceIte]) <;> (try simp only [mRH0, if_pos c_5, c_24, c_42, c_77, ← e_47, ← e_94, if_true, if_false, Bool.false_eq_true, ↓reduceIte]) <;> (try simp only [mRH1, if_pos c_5, c_24, c_42, c_77, ← e_47, ← e_94, if_true, if_false, Bool.false_eq_true, ↓reduceIte]) <;> (try simp only [mRH2, if_pos c_5, c_24, c_42, c_77, ← e_47, ← e_94, if_true, if_false, Bool.false_eq_true, ↓reduceIte]) <;> (first | done | with_reducible rfl | rw [e_94])) d_Mod_requestWord_118
                    · skip
                      exact absurd (by decide) c_98
                  · skip
                    exact absurd (by decide) c_82
              · skip
                exact absurd (by decide) c_51
        · skip
          have c_24 : (mIsW st t_no_cache) = true := bI_1 c_24
          refine lv_aload_n hx hb d_Mod_requestWord_27 rfl (lv_at hl 1 rfl) ?_
          refine lv_iconst (v := 1) hx hb d_Mod_requestWord_28 (by decide) ?_
          refine va_put (D := D) (ci := 4) (v := .int 1) (ty := .boolean) (C := "HeadDeskModel") (T := F_Mod) (N := 38) hx hb hts a_Mod t_Mod k_Mod n_Mod hown hX.1 hP hD hS 0 rfl rfl 18 (by decide) (hts _ m_2_235) (fun _ h9 => h9) rfl (by decide +kernel) rfl rfl (Nat.le_of_ble_eq_true rfl) d_Mod_requestWord_29 (fun H locs hP hD hS => ?_)
          have hP : va_P D vwCl (mdW bd ce (wR st 17 1)) H := hP
          have hD : va_D A (mdW bd ce (wR st 17 1)) := hD
          obtain ⟨s_29, e_29⟩ : ∃ z : MS, z = wR st 17 1 := ⟨_, rfl⟩
          have hP : va_P D vwCl (mdW bd ce s_29) H := by rw [e_29]; exact hP
          have hD : va_D A (mdW bd ce s_29) := by rw [e_29]; exact hD
          have i_29 : mInv s_29 := by rw [e_29]; exact hv
          have j_29 : wInv s_29 := by rw [e_29]; exact hw
          refine lv_iload_n hx hb d_Mod_requestWord_32 rfl (lv_at hl 0 rfl) ?_
          refine lv_if_ne (tgt := 50) hx hb d_Mod_requestWord_33 (by decide) (fun c_33 => ?_) (fun c_33 => ?_)
          · skip
            exact absurd (by decide) c_33
          · skip
            refine lv_aload_n hx hb d_Mod_requestWord_36 rfl (lv_at hl 1 rfl) ?_
            refine va_ldcS hx hb hown (hX.2.2.2.2.2.1 _ _ _ _ st_27) d_Mod_requestWord_37 ?_
            refine hx_Vz (wr := []) (As := [.ref (adK 27)]) (rest := []) hI (c_Mod_isWordL s_29 i_29 j_29 (by decide) sw_27) (cw_V (C := "HeadDeskModel") 1 hts m_3_182 m_3_184 ms_40 m_1_5 m_3_185 (by decide +kernel) ⟨by decide, by decide⟩) hX hA hP hD hS [0, 1, 2, 3, 4, 5, 6] [] rfl rfl (by decide) (by decide) (by decide) (va_recv hX.1 hP (ci := 4) (q0 := 0) rfl rfl) rfl hl.1 rfl (Nat.le_of_ble_eq_true rfl) d_Mod_requestWord_39 ⟨Nat.zero_le _, Nat.zero_le _⟩ (fun H locs hP hD hS => ?_)
            have hP : va_P D vwCl (mdW bd ce s_29) H := hP
            have hD : va_D A (mdW bd ce s_29) := hD
            refine lv_if_eq (tgt := 50) hx hb d_Mod_requestWord_42 (by decide) (fun c_42 => ?_) (fun c_42 => ?_)
            · skip
              have c_42 : (mIsW s_29 t_only_if_cached) = false := bI_0 c_42
              refine lv_iload_n hx hb d_Mod_requestWord_50 rfl (lv_at hl 0 rfl) ?_
              refine lv_if_eq (tgt := 71) hx hb d_Mod_requestWord_51 (by decide) (fun c_51 => ?_) (fun c_51 => ?_)
              · skip
                refine lv_aload_n hx hb d_Mod_requestWord_71 rfl (lv_at hl 1 rfl) ?_
                refine va_ldcS hx hb hown (hX.2.2.2.2.2.1 _ _ _ _ st_29) d_Mod_requestWord_72 ?_
                refine hx_Vz (wr := []) (As := [.ref (adK 29)]) (rest := []) hI (c_Mod_isWordL s_29 i_29 j_29 (by decide) sw_29) (cw_V (C := "HeadDeskModel") 1 hts m_3_182 m_3_184 ms_40 m_1_5 m_3_185 (by decide +kernel) ⟨by decide, by decide⟩) hX hA hP hD hS [0, 1, 2, 3, 4, 5, 6] [] rfl rfl (by decide) (by decide) (by decide) (va_recv hX.1 hP (ci := 4) (q0 := 0) rfl rfl) rfl hl.1 rfl (Nat.le_of_ble_eq_true rfl) d_Mod_requestWord_74 ⟨Nat.zero_le _, Nat.zero_le _⟩ (fun H locs hP hD hS => ?_)
                have hP : va_P D vwCl (mdW bd ce s_29) H := hP
                have hD : va_D A (mdW bd ce s_29) := hD
                refine lv_if_eq (tgt := 97) hx hb d_Mod_requestWord_77 (by decide) (fun c_77 => ?_) (fun c_77 => ?_)
                · skip
                  have c_77 : (mIsW s_29 t_max_stale) = false := bI_0 c_77
                  refine lv_iload_n hx hb d_Mod_requestWord_97 rfl (lv_at hl 0 rfl) ?_
                  refine lv_if_eq (tgt := 118) hx hb d_Mod_requestWord_98 (by decide) (fun c_98 => ?_) (fun c_98 => ?_)
                  · skip
                    exact hret H locs s_29 _ _ hP hD hS (by (try simp only [mReq, if_pos c_5, c_24, c_42, c_77, ← e_29, if_true, if_false, Bool.false_eq_true, ↓reduceIte]) <;> (try simp only [mRB0, if_pos c_5, c_24, c_42, c_77, ← e_29, if_true, if_false, Bool.false_eq_true, ↓reduceIte]) <;> (try simp only [mRB1, if_pos c_5, c_24, c_42, c_77, ← e_29, if_true, if_false, Bool.false_eq_true, ↓reduceIte]) <;> (try simp only [mRB2, if_pos c_5, c_24, c_42, c_77, ← e_29, if_true, if_false, Bool.false_eq_true, ↓reduceIte]) <;> (try simp only [mRH0, if_pos c_5, c_24, c_42, c_77, ← e_29, if_true, if_false, Bool.false_eq_true, ↓reduceIte]) <;> (try simp only [mRH1, if_pos c_5, c_24, c_42, c_77, ← e_29, if_true, if_false, Bool.false_eq_true, ↓reduceIte]) <;> (try simp only [mRH2, if_pos c_5, c_24, c_42, c_77, ← e_29, if_true, if_false, Bool.false_eq_true, ↓reduceIte]) <;> (first | done | with_reducible rfl | rw [e_29])) d_Mod_requestWord_118
                  · skip
                    exact absurd (by decide) c_98
                · skip
                  have c_77 : (mIsW s_29 t_max_stale) = true := bI_1 c_77
                  refine lv_aload_n hx hb d_Mod_requestWord_80 rfl (lv_at hl 1 rfl) ?_
                  refine lv_iload_n hx hb d_Mod_requestWord_81 rfl (lv_at hl 0 rfl) ?_
                  refine lv_if_eq (tgt := 92) hx hb d_Mod_requestWord_82 (by decide) (fun c_82 => ?_) (fun c_82 => ?_)
                  · skip
                    refine lv_bipush (v := (-2)) hx hb d_Mod_requestWord_92 (by decide) ?_
                    refine va_put (D := D) (ci := 4) (v := .int (-2)) (ty := .int) (C := "HeadDeskModel") (T := F_Mod) (N := 38) hx hb hts a_Mod t_Mod k_Mod n_Mod hown hX.1 hP hD hS 0 rfl rfl 14 (by decide) (hts _ m_2_231) (fun _ h9 => h9) rfl (by decide +kernel) rfl rfl (Nat.le_of_ble_eq_true rfl) d_Mod_requestWord_94 (fun H locs hP hD hS => ?_)
                    have hP : va_P D vwCl (mdW bd ce (wR s_29 13 (-2))) H := hP
                    have hD : va_D A (mdW bd ce (wR s_29 13 (-2))) := hD
                    obtain ⟨s_94, e_94⟩ : ∃ z : MS, z = wR s_29 13 (-2) := ⟨_, rfl⟩
                    have hP : va_P D vwCl (mdW bd ce s_94) H := by rw [e_94]; exact hP
                    have hD : va_D A (mdW bd ce s_94) := by rw [e_94]; exact hD
                    have i_94 : mInv s_94 := by rw [e_94]; exact i_29
                    have j_94 : wInv s_94 := by rw [e_94]; exact j_29
                    refine lv_iload_n hx hb d_Mod_requestWord_97 rfl (lv_at hl 0 rfl) ?_
                    refine lv_if_eq (tgt := 118) hx hb d_Mod_requestWord_98 (by decide) (fun c_98 => ?_) (fun c_98 => ?_)
                    · skip
                      exact hret H locs s_94 _ _ hP hD hS (by (try simp only [mReq, if_pos c_5, c_24, c_42, c_77, ← e_29, ← e_94, if_true, if_false, Bool.false_eq_true, ↓reduceIte]) <;> (try simp only [mRB0, if_pos c_5, c_24, c_42, c_77, ← e_29, ← e_94, if_true, if_false, Bool.false_eq_true, ↓reduceIte]) <;> (try simp only [mRB1, if_pos c_5, c_24, c_42, c_77, ← e_29, ← e_94, if_true, if_false, Bool.false_eq_true, ↓reduceIte]) <;> (try simp only [mRB2, if_pos c_5, c_24, c_42, c_77, ← e_29, ← e_94, if_true, if_false, Bool.false_eq_true, ↓reduceIte]) <;> (try simp only [mRH0, if_pos c_5, c_24, c_42, c_77, ← e_29, ← e_94, if_true, if_false, Bool.false_eq_true, ↓reduceIte]) <;> (try simp only [mRH1, if_pos c_5, c_24, c_42, c_77, ← e_29, ← e_94, if_true, if_false, Bool.false_eq_true, ↓reduceIte]) <;> (try simp only [mRH2, if_pos c_5, c_24, c_42, c_77, ← e_29, ← e_94, if_true, if_false, Bool.false_eq_true, ↓reduceIte]) <;> (first | done | with_reducible rfl | rw [e_94])) d_Mod_requestWord_118
                    · skip
                      exact absurd (by decide) c_98
                  · skip
                    exact absurd (by decide) c_82
              · skip
                exact absurd (by decide) c_51
            · skip
              have c_42 : (mIsW s_29 t_only_if_cached) = true := bI_1 c_42
              refine lv_aload_n hx hb d_Mod_requestWord_45 rfl (lv_at hl 1 rfl) ?_
              refine lv_iconst (v := 1) hx hb d_Mod_requestWord_46 (by decide) ?_
              refine va_put (D := D) (ci := 4) (v := .int 1) (ty := .boolean) (C := "HeadDeskModel") (T := F_Mod) (N := 38) hx hb hts a_Mod t_Mod k_Mod n_Mod hown hX.1 hP hD hS 0 rfl rfl 19 (by decide) (hts _ m_2_236) (fun _ h9 => h9) rfl (by decide +kernel) rfl rfl (Nat.le_of_ble_eq_true rfl) d_Mod_requestWord_47 (fun H locs hP hD hS => ?_)
              have hP : va_P D vwCl (mdW bd ce (wR s_29 18 1)) H := hP
              have hD : va_D A (mdW bd ce (wR s_29 18 1)) := hD
              obtain ⟨s_47, e_47⟩ : ∃ z : MS, z = wR s_29 18 1 := ⟨_, rfl⟩
              have hP : va_P D vwCl (mdW bd ce s_47) H := by rw [e_47]; exact hP
              have hD : va_D A (mdW bd ce s_47) := by rw [e_47]; exact hD
              have i_47 : mInv s_47 := by rw [e_47]; exact i_29
              have j_47 : wInv s_47 := by rw [e_47]; exact j_29
              refine lv_iload_n hx hb d_Mod_requestWord_50 rfl (lv_at hl 0 rfl) ?_
              refine lv_if_eq (tgt := 71) hx hb d_Mod_requestWord_51 (by decide) (fun c_51 => ?_) (fun c_51 => ?_)
              · skip
                refine lv_aload_n hx hb d_Mod_requestWord_71 rfl (lv_at hl 1 rfl) ?_
                refine va_ldcS hx hb hown (hX.2.2.2.2.2.1 _ _ _ _ st_29) d_Mod_requestWord_72 ?_
                refine hx_Vz (wr := []) (As := [.ref (adK 29)]) (rest := []) hI (c_Mod_isWordL s_47 i_47 j_47 (by decide) sw_29) (cw_V (C := "HeadDeskModel") 1 hts m_3_182 m_3_184 ms_40 m_1_5 m_3_185 (by decide +kernel) ⟨by decide, by decide⟩) hX hA hP hD hS [0, 1, 2, 3, 4, 5, 6] [] rfl rfl (by decide) (by decide) (by decide) (va_recv hX.1 hP (ci := 4) (q0 := 0) rfl rfl) rfl hl.1 rfl (Nat.le_of_ble_eq_true rfl) d_Mod_requestWord_74 ⟨Nat.zero_le _, Nat.zero_le _⟩ (fun H locs hP hD hS => ?_)
                have hP : va_P D vwCl (mdW bd ce s_47) H := hP
                have hD : va_D A (mdW bd ce s_47) := hD
                refine lv_if_eq (tgt := 97) hx hb d_Mod_requestWord_77 (by decide) (fun c_77 => ?_) (fun c_77 => ?_)
                · skip
                  have c_77 : (mIsW s_47 t_max_stale) = false := bI_0 c_77
                  refine lv_iload_n hx hb d_Mod_requestWord_97 rfl (lv_at hl 0 rfl) ?_
                  refine lv_if_eq (tgt := 118) hx hb d_Mod_requestWord_98 (by decide) (fun c_98 => ?_) (fun c_98 => ?_)
                  · skip
                    exact hret H locs s_47 _ _ hP hD hS (by (try simp only [mReq, if_pos c_5, c_24, c_42, c_77, ← e_29, ← e_47, if_true, if_false, Bool.false_eq_true, ↓reduceIte]) <;> (try simp only [mRB0, if_pos c_5, c_24, c_42, c_77, ← e_29, ← e_47, if_true, if_false, Bool.false_eq_true, ↓reduceIte]) <;> (try simp only [mRB1, if_pos c_5, c_24, c_42, c_77, ← e_29, ← e_47, if_true, if_false, Bool.false_eq_true, ↓reduceIte]) <;> (try simp only [mRB2, if_pos c_5, c_24, c_42, c_77, ← e_29, ← e_47, if_true, if_false, Bool.false_eq_true, ↓reduceIte]) <;> (try simp only [mRH0, if_pos c_5, c_24, c_42, c_77, ← e_29, ← e_47, if_true, if_false, Bool.false_eq_true, ↓reduceIte]) <;> (try simp only [mRH1, if_pos c_5, c_24, c_42, c_77, ← e_29, ← e_47, if_true, if_false, Bool.false_eq_true, ↓reduceIte]) <;> (try simp only [mRH2, if_pos c_5, c_24, c_42, c_77, ← e_29, ← e_47, if_true, if_false, Bool.false_eq_true, ↓reduceIte]) <;> (first | done | with_reducible rfl | rw [e_47])) d_Mod_requestWord_118
                  · skip
                    exact absurd (by decide) c_98
                · skip
                  have c_77 : (mIsW s_47 t_max_stale) = true := bI_1 c_77
                  refine lv_aload_n hx hb d_Mod_requestWord_80 rfl (lv_at hl 1 rfl) ?_
                  refine lv_iload_n hx hb d_Mod_requestWord_81 rfl (lv_at hl 0 rfl) ?_
                  refine lv_if_eq (tgt := 92) hx hb d_Mod_requestWord_82 (by decide) (fun c_82 => ?_) (fun c_82 => ?_)
                  · skip
                    refine lv_bipush (v := (-2)) hx hb d_Mod_requestWord_92 (by decide) ?_
                    refine va_put (D := D) (ci := 4) (v := .int (-2)) (ty := .int) (C := "HeadDeskModel") (T := F_Mod) (N := 38) hx hb hts a_Mod t_Mod k_Mod n_Mod hown hX.1 hP hD hS 0 rfl rfl 14 (by decide) (hts _ m_2_231) (fun _ h9 => h9) rfl (by decide +kernel) rfl rfl (Nat.le_of_ble_eq_true rfl) d_Mod_requestWord_94 (fun H locs hP hD hS => ?_)
                    have hP : va_P D vwCl (mdW bd ce (wR s_47 13 (-2))) H := hP
                    have hD : va_D A (mdW bd ce (wR s_47 13 (-2))) := hD
                    obtain ⟨s_94, e_94⟩ : ∃ z : MS, z = wR s_47 13 (-2) := ⟨_, rfl⟩
                    have hP : va_P D vwCl (mdW bd ce s_94) H := by rw [e_94]; exact hP
                    have hD : va_D A (mdW bd ce s_94) := by rw [e_94]; exact hD
                    have i_94 : mInv s_94 := by rw [e_94]; exact i_47
                    have j_94 : wInv s_94 := by rw [e_94]; exact j_47
                    refine lv_iload_n hx hb d_Mod_requestWord_97 rfl (lv_at hl 0 rfl) ?_
                    refine lv_if_eq (tgt := 118) hx hb d_Mod_requestWord_98 (by decide) (fun c_98 => ?_) (fun c_98 => ?_)
                    · skip
                      exact hret H locs s_94 _ _ hP hD hS (by (try simp only [mReq, if_pos c_5, c_24, c_42, c_77, ← e_29, ← e_47, ← e_94, if_true, if_false, Bool.false_eq_true, ↓reduceIte]) <;> (try simp only [mRB0, if_pos c_5, c_24, c_42, c_77, ← e_29, ← e_47, ← e_94, if_true, if_false, Bool.false_eq_true, ↓reduceIte]) <;> (try simp only [mRB1, if_pos c_5, c_24, c_42, c_77, ← e_29, ← e_47, ← e_94, if_true, if_false, Bool.false_eq_true, ↓reduceIte]) <;> (try simp only [mRB2, if_pos c_5, c_24, c_42, c_77, ← e_29, ← e_47, ← e_94, if_true, if_false, Bool.false_eq_true, ↓reduceIte]) <;> (try simp only [mRH0, if_pos c_5, c_24, c_42, c_77, ← e_29, ← e_47, ← e_94, if_true, if_false, Bool.false_eq_true, ↓reduceIte]) <;> (try simp only [mRH1, if_pos c_5, c_24, c_42, c_77, ← e_29, ← e_47, ← e_94, if_true, if_false, Bool.false_eq_true, ↓reduceIte]) <;> (try simp only [mRH2, if_pos c_5, c_24, c_42, c_77, ← e_29, ← e_47, ← e_94, if_true, if_false, Bool.false_eq_true, ↓reduceIte]) <;> (first | done | with_reducible rfl | rw [e_94])) d_Mod_requestWord_118
                    · skip
                      exact absurd (by decide) c_98
                  · skip
                    exact absurd (by decide) c_82
              · skip
                exact absurd (by decide) c_51
    · skip
      have c_5 : ¬ (gR st 31 = (-1)) := c_5
      refine lv_iconst (v := 1) hx hb d_Mod_requestWord_8 (by decide) ?_
      refine lv_goto (tgt := 13) hx hb d_Mod_requestWord_9 (by decide) ?_
      refine lv_istore_n (lv' := [(1, .int 1), (0, .ref (bd 0))]) hx hb d_Mod_requestWord_13 rfl hl (by decide) rfl (fun ls hl => ?_)
      refine lv_iload_n hx hb d_Mod_requestWord_14 rfl (lv_at hl 0 rfl) ?_
      refine lv_if_ne (tgt := 32) hx hb d_Mod_requestWord_15 (by decide) (fun c_15 => ?_) (fun c_15 => ?_)
      · skip
        refine lv_iload_n hx hb d_Mod_requestWord_32 rfl (lv_at hl 0 rfl) ?_
        refine lv_if_ne (tgt := 50) hx hb d_Mod_requestWord_33 (by decide) (fun c_33 => ?_) (fun c_33 => ?_)
        · skip
          refine lv_iload_n hx hb d_Mod_requestWord_50 rfl (lv_at hl 0 rfl) ?_
          refine lv_if_eq (tgt := 71) hx hb d_Mod_requestWord_51 (by decide) (fun c_51 => ?_) (fun c_51 => ?_)
          · skip
            exact absurd c_51 (by decide)
          · skip
            refine lv_aload_n hx hb d_Mod_requestWord_54 rfl (lv_at hl 1 rfl) ?_
            refine va_ldcS hx hb hown (hX.2.2.2.2.2.1 _ _ _ _ st_28) d_Mod_requestWord_55 ?_
            refine hx_Vz (wr := []) (As := [.ref (adK 28)]) (rest := []) hI (c_Mod_isWordL st hv hw (by decide) sw_28) (cw_V (C := "HeadDeskModel") 1 hts m_3_182 m_3_184 ms_40 m_1_5 m_3_185 (by decide +kernel) ⟨by decide, by decide⟩) hX hA hP hD hS [0, 1, 2, 3, 4, 5, 6] [] rfl rfl (by decide) (by decide) (by decide) (va_recv hX.1 hP (ci := 4) (q0 := 0) rfl rfl) rfl hl.1 rfl (Nat.le_of_ble_eq_true rfl) d_Mod_requestWord_57 ⟨Nat.zero_le _, Nat.zero_le _⟩ (fun H locs hP hD hS => ?_)
            have hP : va_P D vwCl (mdW bd ce st) H := hP
            have hD : va_D A (mdW bd ce st) := hD
            refine lv_if_eq (tgt := 71) hx hb d_Mod_requestWord_60 (by decide) (fun c_60 => ?_) (fun c_60 => ?_)
            · skip
              have c_60 : (mIsW st t_max_age) = false := bI_0 c_60
              refine lv_aload_n hx hb d_Mod_requestWord_71 rfl (lv_at hl 1 rfl) ?_
              refine va_ldcS hx hb hown (hX.2.2.2.2.2.1 _ _ _ _ st_29) d_Mod_requestWord_72 ?_
              refine hx_Vz (wr := []) (As := [.ref (adK 29)]) (rest := []) hI (c_Mod_isWordL st hv hw (by decide) sw_29) (cw_V (C := "HeadDeskModel") 1 hts m_3_182 m_3_184 ms_40 m_1_5 m_3_185 (by decide +kernel) ⟨by decide, by decide⟩) hX hA hP hD hS [0, 1, 2, 3, 4, 5, 6] [] rfl rfl (by decide) (by decide) (by decide) (va_recv hX.1 hP (ci := 4) (q0 := 0) rfl rfl) rfl hl.1 rfl (Nat.le_of_ble_eq_true rfl) d_Mod_requestWord_74 ⟨Nat.zero_le _, Nat.zero_le _⟩ (fun H locs hP hD hS => ?_)
              have hP : va_P D vwCl (mdW bd ce st) H := hP
              have hD : va_D A (mdW bd ce st) := hD
              refine lv_if_eq (tgt := 97) hx hb d_Mod_requestWord_77 (by decide) (fun c_77 => ?_) (fun c_77 => ?_)
              · skip
                have c_77 : (mIsW st t_max_stale) = false := bI_0 c_77
                refine lv_iload_n hx hb d_Mod_requestWord_97 rfl (lv_at hl 0 rfl) ?_
                refine lv_if_eq (tgt := 118) hx hb d_Mod_requestWord_98 (by decide) (fun c_98 => ?_) (fun c_98 => ?_)
                · skip
                  exact absurd c_98 (by decide)
                · skip
                  refine lv_aload_n hx hb d_Mod_requestWord_101 rfl (lv_at hl 1 rfl) ?_
                  refine va_ldcS hx hb hown (hX.2.2.2.2.2.1 _ _ _ _ st_30) d_Mod_requestWord_102 ?_
                  refine hx_Vz (wr := []) (As := [.ref (adK 30)]) (rest := []) hI (c_Mod_isWordL st hv hw (by decide) sw_30) (cw_V (C := "HeadDeskModel") 1 hts m_3_182 m_3_184 ms_40 m_1_5 m_3_185 (by decide +kernel) ⟨by decide, by decide⟩) hX hA hP hD hS [0, 1, 2, 3, 4, 5, 6] [] rfl rfl (by decide) (by decide) (by decide) (va_recv hX.1 hP (ci := 4) (q0 := 0) rfl rfl) rfl hl.1 rfl (Nat.le_of_ble_eq_true rfl) d_Mod_requestWord_104 ⟨Nat.zero_le _, Nat.zero_le _⟩ (fun H locs hP hD hS => ?_)
                  have hP : va_P D vwCl (mdW bd ce st) H := hP
                  have hD : va_D A (mdW bd ce st) := hD
                  refine lv_if_eq (tgt := 118) hx hb d_Mod_requestWord_107 (by decide) (fun c_107 => ?_) (fun c_107 => ?_)
                  · skip
                    have c_107 : (mIsW st t_min_fresh) = false := bI_0 c_107
                    exact hret H locs st _ _ hP hD hS (by (try simp only [mReq, if_neg c_5, c_60, c_77, c_107, if_true, if_false, Bool.false_eq_true, ↓reduceIte]) <;> (try simp only [mRB0, if_neg c_5, c_60, c_77, c_107, if_true, if_false, Bool.false_eq_true, ↓reduceIte]) <;> (try simp only [mRB1, if_neg c_5, c_60, c_77, c_107, if_true, if_false, Bool.false_eq_true, ↓reduceIte]) <;> (try simp only [mRB2, if_neg c_5, c_60, c_77, c_107, if_true, if_false, Bool.false_eq_true, ↓reduceIte]) <;> (try simp only [mRH0, if_neg c_5, c_60, c_77, c_107, if_true, if_false, Bool.false_eq_true, ↓reduceIte]) <;> (try simp only [mRH1, if_neg c_5, c_60, c_77, c_107, if_true, if_false, Bool.false_eq_true, ↓reduceIte]) <;> (try simp only [mRH2, if_neg c_5, c_60, c_77, c_107, if_true, if_false, Bool.false_eq_true, ↓reduceIte]) <;> (first | done | with_reducible rfl)) d_Mod_requestWord_118
                  · skip
                    have c_107 : (mIsW st t_min_fresh) = true := bI_1 c_107
                    refine lv_aload_n hx hb d_Mod_requestWord_110 rfl (lv_at hl 1 rfl) ?_
                    refine lv_aload_n hx hb d_Mod_requestWord_111 rfl (lv_at hl 1 rfl) ?_
                    refine va_get (D := D) (ci := 4) (v := .int (gR st 31)) (C := "HeadDeskModel") (T := F_Mod) (N := 38) hx hb hts a_Mod hown hX.1 hP 0 rfl rfl 37 (by decide) (hts _ m_3_14) (fun _ h9 => h9) rfl d_Mod_requestWord_112 ?_
                    refine va_put (D := D) (ci := 4) (v := .int (gR st 31)) (ty := .int) (C := "HeadDeskModel") (T := F_Mod) (N := 38) hx hb hts a_Mod t_Mod k_Mod n_Mod hown hX.1 hP hD hS 0 rfl rfl 15 (by decide) (hts _ m_2_232) (fun _ h9 => h9) rfl (by decide +kernel) rfl rfl (Nat.le_of_ble_eq_true rfl) d_Mod_requestWord_115 (fun H locs hP hD hS => ?_)
                    have hP : va_P D vwCl (mdW bd ce (wR st 14 (gR st 31))) H := hP
                    have hD : va_D A (mdW bd ce (wR st 14 (gR st 31))) := hD
                    obtain ⟨s_115, e_115⟩ : ∃ z : MS, z = wR st 14 (gR st 31) := ⟨_, rfl⟩
                    have hP : va_P D vwCl (mdW bd ce s_115) H := by rw [e_115]; exact hP
                    have hD : va_D A (mdW bd ce s_115) := by rw [e_115]; exact hD
                    have i_115 : mInv s_115 := by rw [e_115]; exact hv
                    have j_115 : wInv s_115 := by rw [e_115]; exact hw
                    exact hret H locs s_115 _ _ hP hD hS (by (try simp only [mReq, if_neg c_5, c_60, c_77, c_107, ← e_115, if_true, if_false, Bool.false_eq_true, ↓reduceIte]) <;> (try simp only [mRB0, if_neg c_5, c_60, c_77, c_107, ← e_115, if_true, if_false, Bool.false_eq_true, ↓reduceIte]) <;> (try simp only [mRB1, if_neg c_5, c_60, c_77, c_107, ← e_115, if_true, if_false, Bool.false_eq_true, ↓reduceIte]) <;> (try simp only [mRB2, if_neg c_5, c_60, c_77, c_107, ← e_115, if_true, if_false, Bool.false_eq_true, ↓reduceIte]) <;> (try simp only [mRH0, if_neg c_5, c_60, c_77, c_107, ← e_115, if_true, if_false, Bool.false_eq_true, ↓reduceIte]) <;> (try simp only [mRH1, if_neg c_5, c_60, c_77, c_107, ← e_115, if_true, if_false, Bool.false_eq_true, ↓reduceIte]) <;> (try simp only [mRH2, if_neg c_5, c_60, c_77, c_107, ← e_115, if_true, if_false, Bool.false_eq_true, ↓reduceIte]) <;> (first | done | with_reducible rfl | rw [e_115])) d_Mod_requestWord_118
              · skip
                have c_77 : (mIsW st t_max_stale) = true := bI_1 c_77
                refine lv_aload_n hx hb d_Mod_requestWord_80 rfl (lv_at hl 1 rfl) ?_
                refine lv_iload_n hx hb d_Mod_requestWord_81 rfl (lv_at hl 0 rfl) ?_
                refine lv_if_eq (tgt := 92) hx hb d_Mod_requestWord_82 (by decide) (fun c_82 => ?_) (fun c_82 => ?_)
                · skip
                  exact absurd c_82 (by decide)
                · skip
                  refine lv_aload_n hx hb d_Mod_requestWord_85 rfl (lv_at hl 1 rfl) ?_
                  refine va_get (D := D) (ci := 4) (v := .int (gR st 31)) (C := "HeadDeskModel") (T := F_Mod) (N := 38) hx hb hts a_Mod hown hX.1 hP 0 rfl rfl 37 (by decide) (hts _ m_3_14) (fun _ h9 => h9) rfl d_Mod_requestWord_86 ?_
                  refine lv_goto (tgt := 94) hx hb d_Mod_requestWord_89 (by decide) ?_
                  refine va_put (D := D) (ci := 4) (v := .int (gR st 31)) (ty := .int) (C := "HeadDeskModel") (T := F_Mod) (N := 38) hx hb hts a_Mod t_Mod k_Mod n_Mod hown hX.1 hP hD hS 0 rfl rfl 14 (by decide) (hts _ m_2_231) (fun _ h9 => h9) rfl (by decide +kernel) rfl rfl (Nat.le_of_ble_eq_true rfl) d_Mod_requestWord_94 (fun H locs hP hD hS => ?_)
                  have hP : va_P D vwCl (mdW bd ce (wR st 13 (gR st 31))) H := hP
                  have hD : va_D A (mdW bd ce (wR st 13 (gR st 31))) := hD
                  obtain ⟨s_94, e_94⟩ : ∃ z : MS, z = wR st 13 (gR st 31) := ⟨_, rfl⟩
                  have hP : va_P D vwCl (mdW bd ce s_94) H := by rw [e_94]; exact hP
                  have hD : va_D A (mdW bd ce s_94) := by rw [e_94]; exact hD
                  have i_94 : mInv s_94 := by rw [e_94]; exact hv
                  have j_94 : wInv s_94 := by rw [e_94]; exact hw
                  refine lv_iload_n hx hb d_Mod_requestWord_97 rfl (lv_at hl 0 rfl) ?_
                  refine lv_if_eq (tgt := 118) hx hb d_Mod_requestWord_98 (by decide) (fun c_98 => ?_) (fun c_98 => ?_)
                  · skip
                    exact absurd c_98 (by decide)
                  · skip
                    refine lv_aload_n hx hb d_Mod_requestWord_101 rfl (lv_at hl 1 rfl) ?_
                    refine va_ldcS hx hb hown (hX.2.2.2.2.2.1 _ _ _ _ st_30) d_Mod_requestWord_102 ?_
                    refine hx_Vz (wr := []) (As := [.ref (adK 30)]) (rest := []) hI (c_Mod_isWordL s_94 i_94 j_94 (by decide) sw_30) (cw_V (C := "HeadDeskModel") 1 hts m_3_182 m_3_184 ms_40 m_1_5 m_3_185 (by decide +kernel) ⟨by decide, by decide⟩) hX hA hP hD hS [0, 1, 2, 3, 4, 5, 6] [] rfl rfl (by decide) (by decide) (by decide) (va_recv hX.1 hP (ci := 4) (q0 := 0) rfl rfl) rfl hl.1 rfl (Nat.le_of_ble_eq_true rfl) d_Mod_requestWord_104 ⟨Nat.zero_le _, Nat.zero_le _⟩ (fun H locs hP hD hS => ?_)
                    have hP : va_P D vwCl (mdW bd ce s_94) H := hP
                    have hD : va_D A (mdW bd ce s_94) := hD
                    refine lv_if_eq (tgt := 118) hx hb d_Mod_requestWord_107 (by decide) (fun c_107 => ?_) (fun c_107 => ?_)
                    · skip
                      have c_107 : (mIsW s_94 t_min_fresh) = false := bI_0 c_107
                      exact hret H locs s_94 _ _ hP hD hS (by (try simp only [mReq, if_neg c_5, c_60, c_77, c_107, ← e_94, if_true, if_false, Bool.false_eq_true, ↓reduceIte]) <;> (try simp only [mRB0, if_neg c_5, c_60, c_77, c_107, ← e_94, if_true, if_false, Bool.false_eq_true, ↓reduceIte]) <;> (try simp only [mRB1, if_neg c_5, c_60, c_77, c_107, ← e_94, if_true, if_false, Bool.false_eq_true, ↓reduceIte]) <;> (try simp only [mRB2, if_neg c_5, c_60, c_77, c_107, ← e_94, if_true, if_false, Bool.false_eq_true, ↓reduceIte]) <;> (try simp only [mRH0, if_neg c_5, c_60, c_77, c_107, ← e_94, if_true, if_false, Bool.false_eq_true, ↓reduceIte]) <;> (try simp only [mRH1, if_neg c_5, c_60, c_77, c_107, ← e_94, if_true, if_false, Bool.false_eq_true, ↓reduceIte]) <;> (try simp only [mRH2, if_neg c_5, c_60, c_77, c_107, ← e_94, if_true, if_false, Bool.false_eq_true, ↓reduceIte]) <;> (first | done | with_reducible rfl | rw [e_94])) d_Mod_requestWord_118
                    · skip
                      have c_107 : (mIsW s_94 t_min_fresh) = true := bI_1 c_107
                      refine lv_aload_n hx hb d_Mod_requestWord_110 rfl (lv_at hl 1 rfl) ?_
                      refine lv_aload_n hx hb d_Mod_requestWord_111 rfl (lv_at hl 1 rfl) ?_
                      refine va_get (D := D) (ci := 4) (v := .int (gR s_94 31)) (C := "HeadDeskModel") (T := F_Mod) (N := 38) hx hb hts a_Mod hown hX.1 hP 0 rfl rfl 37 (by decide) (hts _ m_3_14) (fun _ h9 => h9) rfl d_Mod_requestWord_112 ?_
                      refine va_put (D := D) (ci := 4) (v := .int (gR s_94 31)) (ty := .int) (C := "HeadDeskModel") (T := F_Mod) (N := 38) hx hb hts a_Mod t_Mod k_Mod n_Mod hown hX.1 hP hD hS 0 rfl rfl 15 (by decide) (hts _ m_2_232) (fun _ h9 => h9) rfl (by decide +kernel) rfl rfl (Nat.le_of_ble_eq_true rfl) d_Mod_requestWord_115 (fun H locs hP hD hS => ?_)
                      have hP : va_P D vwCl (mdW bd ce (wR s_94 14 (gR s_94 31))) H := hP
                      have hD : va_D A (mdW bd ce (wR s_94 14 (gR s_94 31))) := hD
                      obtain ⟨s_115, e_115⟩ : ∃ z : MS, z = wR s_94 14 (gR s_94 31) := ⟨_, rfl⟩
                      have hP : va_P D vwCl (mdW bd ce s_115) H := by rw [e_115]; exact hP
                      have hD : va_D A (mdW bd ce s_115) := by rw [e_115]; exact hD
                      have i_115 : mInv s_115 := by rw [e_115]; exact i_94
                      have j_115 : wInv s_115 := by rw [e_115]; exact j_94
                      exact hret H locs s_115 _ _ hP hD hS (by (try simp only [mReq, if_neg c_5, c_60, c_77, c_107, ← e_94, ← e_115, if_true, if_false, Bool.false_eq_true, ↓reduceIte]) <;> (try simp only [mRB0, if_neg c_5, c_60, c_77, c_107, ← e_94, ← e_115, if_true, if_false, Bool.false_eq_true, ↓reduceIte]) <;> (try simp only [mRB1, if_neg c_5, c_60, c_77, c_107, ← e_94, ← e_115, if_true, if_false, Bool.false_eq_true, ↓reduceIte]) <;> (try simp only [mRB2, if_neg c_5, c_60, c_77, c_107, ← e_94, ← e_115, if_true, if_false, Bool.false_eq_true, ↓reduceIte]) <;> (try simp only [mRH0, if_neg c_5, c_60, c_77, c_107, ← e_94, ← e_115, if_true, if_false, Bool.false_eq_true, ↓reduceIte]) <;> (try simp only [mRH1, if_neg c_5, c_60, c_77, c_107, ← e_94, ← e_115, if_true, if_false, Bool.false_eq_true, ↓reduceIte]) <;> (try simp only [mRH2, if_neg c_5, c_60, c_77, c_107, ← e_94, ← e_115, if_true, if_false, Bool.false_eq_true, ↓reduceIte]) <;> (first | done | with_reducible rfl | rw [e_115])) d_Mod_requestWord_118
            · skip
              have c_60 : (mIsW st t_max_age) = true := bI_1 c_60
              refine lv_aload_n hx hb d_Mod_requestWord_63 rfl (lv_at hl 1 rfl) ?_
              refine lv_aload_n hx hb d_Mod_requestWord_64 rfl (lv_at hl 1 rfl) ?_
              refine va_get (D := D) (ci := 4) (v := .int (gR st 31)) (C := "HeadDeskModel") (T := F_Mod) (N := 38) hx hb hts a_Mod hown hX.1 hP 0 rfl rfl 37 (by decide) (hts _ m_3_14) (fun _ h9 => h9) rfl d_Mod_requestWord_65 ?_
              refine va_put (D := D) (ci := 4) (v := .int (gR st 31)) (ty := .int) (C := "HeadDeskModel") (T := F_Mod) (N := 38) hx hb hts a_Mod t_Mod k_Mod n_Mod hown hX.1 hP hD hS 0 rfl rfl 13 (by decide) (hts _ m_2_230) (fun _ h9 => h9) rfl (by decide +kernel) rfl rfl (Nat.le_of_ble_eq_true rfl) d_Mod_requestWord_68 (fun H locs hP hD hS => ?_)
              have hP : va_P D vwCl (mdW bd ce (wR st 12 (gR st 31))) H := hP
              have hD : va_D A (mdW bd ce (wR st 12 (gR st 31))) := hD
              obtain ⟨s_68, e_68⟩ : ∃ z : MS, z = wR st 12 (gR st 31) := ⟨_, rfl⟩
              have hP : va_P D vwCl (mdW bd ce s_68) H := by rw [e_68]; exact hP
              have hD : va_D A (mdW bd ce s_68) := by rw [e_68]; exact hD
              have i_68 : mInv s_68 := by rw [e_68]; exact hv
              have j_68 : wInv s_68 := by rw [e_68]; exact hw
              refine lv_aload_n hx hb d_Mod_requestWord_71 rfl (lv_at hl 1 rfl) ?_
              refine va_ldcS hx hb hown (hX.2.2.2.2.2.1 _ _ _ _ st_29) d_Mod_requestWord_72 ?_
              refine hx_Vz (wr := []) (As := [.ref (adK 29)]) (rest := []) hI (c_Mod_isWordL s_68 i_68 j_68 (by decide) sw_29) (cw_V (C := "HeadDeskModel") 1 hts m_3_182 m_3_184 ms_40 m_1_5 m_3_185 (by decide +kernel) ⟨by decide, by decide⟩) hX hA hP hD hS [0, 1, 2, 3, 4, 5, 6] [] rfl rfl (by decide) (by decide) (by decide) (va_recv hX.1 hP (ci := 4) (q0 := 0) rfl rfl) rfl hl.1 rfl (Nat.le_of_ble_eq_true rfl) d_Mod_requestWord_74 ⟨Nat.zero_le _, Nat.zero_le _⟩ (fun H locs hP hD hS => ?_)
              have hP : va_P D vwCl (mdW bd ce s_68) H := hP
              have hD : va_D A (mdW bd ce s_68) := hD
              refine lv_if_eq (tgt := 97) hx hb d_Mod_requestWord_77 (by decide) (fun c_77 => ?_) (fun c_77 => ?_)
              · skip
                have c_77 : (mIsW s_68 t_max_stale) = false := bI_0 c_77
                refine lv_iload_n hx hb d_Mod_requestWord_97 rfl (lv_at hl 0 rfl) ?_
                refine lv_if_eq (tgt := 118) hx hb d_Mod_requestWord_98 (by decide) (fun c_98 => ?_) (fun c_98 => ?_)
                · skip
                  exact absurd c_98 (by decide)
                · skip
                  refine lv_aload_n hx hb d_Mod_requestWord_101 rfl (lv_at hl 1 rfl) ?_
                  refine va_ldcS hx hb hown (hX.2.2.2.2.2.1 _ _ _ _ st_30) d_Mod_requestWord_102 ?_
                  refine hx_Vz (wr := []) (As := [.ref (adK 30)]) (rest := []) hI (c_Mod_isWordL s_68 i_68 j_68 (by decide) sw_30) (cw_V (C := "HeadDeskModel") 1 hts m_3_182 m_3_184 ms_40 m_1_5 m_3_185 (by decide +kernel) ⟨by decide, by decide⟩) hX hA hP hD hS [0, 1, 2, 3, 4, 5, 6] [] rfl rfl (by decide) (by decide) (by decide) (va_recv hX.1 hP (ci := 4) (q0 := 0) rfl rfl) rfl hl.1 rfl (Nat.le_of_ble_eq_true rfl) d_Mod_requestWord_104 ⟨Nat.zero_le _, Nat.zero_le _⟩ (fun H locs hP hD hS => ?_)
                  have hP : va_P D vwCl (mdW bd ce s_68) H := hP
                  have hD : va_D A (mdW bd ce s_68) := hD
                  refine lv_if_eq (tgt := 118) hx hb d_Mod_requestWord_107 (by decide) (fun c_107 => ?_) (fun c_107 => ?_)
                  · skip
                    have c_107 : (mIsW s_68 t_min_fresh) = false := bI_0 c_107
                    exact hret H locs s_68 _ _ hP hD hS (by (try simp only [mReq, if_neg c_5, c_60, c_77, c_107, ← e_68, if_true, if_false, Bool.false_eq_true, ↓reduceIte]) <;> (try simp only [mRB0, if_neg c_5, c_60, c_77, c_107, ← e_68, if_true, if_false, Bool.false_eq_true, ↓reduceIte]) <;> (try simp only [mRB1, if_neg c_5, c_60, c_77, c_107, ← e_68, if_true, if_false, Bool.false_eq_true, ↓reduceIte]) <;> (try simp only [mRB2, if_neg c_5, c_60, c_77, c_107, ← e_68, if_true, if_false, Bool.false_eq_true, ↓reduceIte]) <;> (try simp only [mRH0, if_neg c_5, c_60, c_77, c_107, ← e_68, if_true, if_false, Bool.false_eq_true, ↓reduceIte]) <;> (try simp only [mRH1, if_neg c_5, c_60, c_77, c_107, ← e_68, if_true, if_false, Bool.false_eq_true, ↓reduceIte]) <;> (try simp only [mRH2, if_neg c_5, c_60, c_77, c_107, ← e_68, if_true, if_false, Bool.false_eq_true, ↓reduceIte]) <;> (first | done | with_reducible rfl | rw [e_68])) d_Mod_requestWord_118
                  · skip
                    have c_107 : (mIsW s_68 t_min_fresh) = true := bI_1 c_107
                    refine lv_aload_n hx hb d_Mod_requestWord_110 rfl (lv_at hl 1 rfl) ?_
                    refine lv_aload_n hx hb d_Mod_requestWord_111 rfl (lv_at hl 1 rfl) ?_
                    refine va_get (D := D) (ci := 4) (v := .int (gR s_68 31)) (C := "HeadDeskModel") (T := F_Mod) (N := 38) hx hb hts a_Mod hown hX.1 hP 0 rfl rfl 37 (by decide) (hts _ m_3_14) (fun _ h9 => h9) rfl d_Mod_requestWord_112 ?_
                    refine va_put (D := D) (ci := 4) (v := .int (gR s_68 31)) (ty := .int) (C := "HeadDeskModel") (T := F_Mod) (N := 38) hx hb hts a_Mod t_Mod k_Mod n_Mod hown hX.1 hP hD hS 0 rfl rfl 15 (by decide) (hts _ m_2_232) (fun _ h9 => h9) rfl (by decide +kernel) rfl rfl (Nat.le_of_ble_eq_true rfl) d_Mod_requestWord_115 (fun H locs hP hD hS => ?_)
                    have hP : va_P D vwCl (mdW bd ce (wR s_68 14 (gR s_68 31))) H := hP
                    have hD : va_D A (mdW bd ce (wR s_68 14 (gR s_68 31))) := hD
                    obtain ⟨s_115, e_115⟩ : ∃ z : MS, z = wR s_68 14 (gR s_68 31) := ⟨_, rfl⟩
                    have hP : va_P D vwCl (mdW bd ce s_115) H := by rw [e_115]; exact hP
                    have hD : va_D A (mdW bd ce s_115) := by rw [e_115]; exact hD
                    have i_115 : mInv s_115 := by rw [e_115]; exact i_68
                    have j_115 : wInv s_115 := by rw [e_115]; exact j_68
                    exact hret H locs s_115 _ _ hP hD hS (by (try simp only [mReq, if_neg c_5, c_60, c_77, c_107, ← e_68, ← e_115, if_true, if_false, Bool.false_eq_true, ↓reduceIte]) <;> (try simp only [mRB0, if_neg c_5, c_60, c_77, c_107, ← e_68, ← e_115, if_true, if_false, Bool.false_eq_true, ↓reduceIte]) <;> (try simp only [mRB1, if_neg c_5, c_60, c_77, c_107, ← e_68, ← e_115, if_true, if_false, Bool.false_eq_true, ↓reduceIte]) <;> (try simp only [mRB2, if_neg c_5, c_60, c_77, c_107, ← e_68, ← e_115, if_true, if_false, Bool.false_eq_true, ↓reduceIte]) <;> (try simp only [mRH0, if_neg c_5, c_60, c_77, c_107, ← e_68, ← e_115, if_true, if_false, Bool.false_eq_true, ↓reduceIte]) <;> (try simp only [mRH1, if_neg c_5, c_60, c_77, c_107, ← e_68, ← e_115, if_true, if_false, Bool.false_eq_true, ↓reduceIte]) <;> (try simp only [mRH2, if_neg c_5, c_60, c_77, c_107, ← e_68, ← e_115, if_true, if_false, Bool.false_eq_true, ↓reduceIte]) <;> (first | done | with_reducible rfl | rw [e_115])) d_Mod_requestWord_118
              · skip
                have c_77 : (mIsW s_68 t_max_stale) = true := bI_1 c_77
                refine lv_aload_n hx hb d_Mod_requestWord_80 rfl (lv_at hl 1 rfl) ?_
                refine lv_iload_n hx hb d_Mod_requestWord_81 rfl (lv_at hl 0 rfl) ?_
                refine lv_if_eq (tgt := 92) hx hb d_Mod_requestWord_82 (by decide) (fun c_82 => ?_) (fun c_82 => ?_)
                · skip
                  exact absurd c_82 (by decide)
                · skip
                  refine lv_aload_n hx hb d_Mod_requestWord_85 rfl (lv_at hl 1 rfl) ?_
                  refine va_get (D := D) (ci := 4) (v := .int (gR s_68 31)) (C := "HeadDeskModel") (T := F_Mod) (N := 38) hx hb hts a_Mod hown hX.1 hP 0 rfl rfl 37 (by decide) (hts _ m_3_14) (fun _ h9 => h9) rfl d_Mod_requestWord_86 ?_
                  refine lv_goto (tgt := 94) hx hb d_Mod_requestWord_89 (by decide) ?_
                  refine va_put (D := D) (ci := 4) (v := .int (gR s_68 31)) (ty := .int) (C := "HeadDeskModel") (T := F_Mod) (N := 38) hx hb hts a_Mod t_Mod k_Mod n_Mod hown hX.1 hP hD hS 0 rfl rfl 14 (by decide) (hts _ m_2_231) (fun _ h9 => h9) rfl (by decide +kernel) rfl rfl (Nat.le_of_ble_eq_true rfl) d_Mod_requestWord_94 (fun H locs hP hD hS => ?_)
                  have hP : va_P D vwCl (mdW bd ce (wR s_68 13 (gR s_68 31))) H := hP
                  have hD : va_D A (mdW bd ce (wR s_68 13 (gR s_68 31))) := hD
                  obtain ⟨s_94, e_94⟩ : ∃ z : MS, z = wR s_68 13 (gR s_68 31) := ⟨_, rfl⟩
                  have hP : va_P D vwCl (mdW bd ce s_94) H := by rw [e_94]; exact hP
                  have hD : va_D A (mdW bd ce s_94) := by rw [e_94]; exact hD
                  have i_94 : mInv s_94 := by rw [e_94]; exact i_68
                  have j_94 : wInv s_94 := by rw [e_94]; exact j_68
                  refine lv_iload_n hx hb d_Mod_requestWord_97 rfl (lv_at hl 0 rfl) ?_
                  refine lv_if_eq (tgt := 118) hx hb d_Mod_requestWord_98 (by decide) (fun c_98 => ?_) (fun c_98 => ?_)
                  · skip
                    exact absurd c_98 (by decide)
                  · skip
                    refine lv_aload_n hx hb d_Mod_requestWord_101 rfl (lv_at hl 1 rfl) ?_
                    refine va_ldcS hx hb hown (hX.2.2.2.2.2.1 _ _ _ _ st_30) d_Mod_requestWord_102 ?_
                    refine hx_Vz (wr := []) (As := [.ref (adK 30)]) (rest := []) hI (c_Mod_isWordL s_94 i_94 j_94 (by decide) sw_30) (cw_V (C := "HeadDeskModel") 1 hts m_3_182 m_3_184 ms_40 m_1_5 m_3_185 (by decide +kernel) ⟨by decide, by decide⟩) hX hA hP hD hS [0, 1, 2, 3, 4, 5, 6] [] rfl rfl (by decide) (by decide) (by decide) (va_recv hX.1 hP (ci := 4) (q0 := 0) rfl rfl) rfl hl.1 rfl (Nat.le_of_ble_eq_true rfl) d_Mod_requestWord_104 ⟨Nat.zero_le _, Nat.zero_le _⟩ (fun H locs hP hD hS => ?_)
                    have hP : va_P D vwCl (mdW bd ce s_94) H := hP
                    have hD : va_D A (mdW bd ce s_94) := hD
                    refine lv_if_eq (tgt := 118) hx hb d_Mod_requestWord_107 (by decide) (fun c_107 => ?_) (fun c_107 => ?_)
                    · skip
                      have c_107 : (mIsW s_94 t_min_fresh) = false := bI_0 c_107
                      exact hret H locs s_94 _ _ hP hD hS (by (try simp only [mReq, if_neg c_5, c_60, c_77, c_107, ← e_68, ← e_94, if_true, if_false, Bool.false_eq_true, ↓reduceIte]) <;> (try simp only [mRB0, if_neg c_5, c_60, c_77, c_107, ← e_68, ← e_94, if_true, if_false, Bool.false_eq_true, ↓reduceIte]) <;> (try simp only [mRB1, if_neg c_5, c_60, c_77, c_107, ← e_68, ← e_94, if_true, if_false, Bool.false_eq_true, ↓reduceIte]) <;> (try simp only [mRB2, if_neg c_5, c_60, c_77, c_107, ← e_68, ← e_94, if_true, if_false, Bool.false_eq_true, ↓reduceIte]) <;> (try simp only [mRH0, if_neg c_5, c_60, c_77, c_107, ← e_68, ← e_94, if_true, if_false, Bool.false_eq_true, ↓reduceIte]) <;> (try simp only [mRH1, if_neg c_5, c_60, c_77, c_107, ← e_68, ← e_94, if_true, if_false, Bool.false_eq_true, ↓reduceIte]) <;> (try simp only [mRH2, if_neg c_5, c_60, c_77, c_107, ← e_68, ← e_94, if_true, if_false, Bool.false_eq_true, ↓reduceIte]) <;> (first | done | with_reducible rfl | rw [e_94])) d_Mod_requestWord_118
                    · skip
                      have c_107 : (mIsW s_94 t_min_fresh) = true := bI_1 c_107
                      refine lv_aload_n hx hb d_Mod_requestWord_110 rfl (lv_at hl 1 rfl) ?_
                      refine lv_aload_n hx hb d_Mod_requestWord_111 rfl (lv_at hl 1 rfl) ?_
                      refine va_get (D := D) (ci := 4) (v := .int (gR s_94 31)) (C := "HeadDeskModel") (T := F_Mod) (N := 38) hx hb hts a_Mod hown hX.1 hP 0 rfl rfl 37 (by decide) (hts _ m_3_14) (fun _ h9 => h9) rfl d_Mod_requestWord_112 ?_
                      refine va_put (D := D) (ci := 4) (v := .int (gR s_94 31)) (ty := .int) (C := "HeadDeskModel") (T := F_Mod) (N := 38) hx hb hts a_Mod t_Mod k_Mod n_Mod hown hX.1 hP hD hS 0 rfl rfl 15 (by decide) (hts _ m_2_232) (fun _ h9 => h9) rfl (by decide +kernel) rfl rfl (Nat.le_of_ble_eq_true rfl) d_Mod_requestWord_115 (fun H locs hP hD hS => ?_)
                      have hP : va_P D vwCl (mdW bd ce (wR s_94 14 (gR s_94 31))) H := hP
                      have hD : va_D A (mdW bd ce (wR s_94 14 (gR s_94 31))) := hD
                      obtain ⟨s_115, e_115⟩ : ∃ z : MS, z = wR s_94 14 (gR s_94 31) := ⟨_, rfl⟩
                      have hP : va_P D vwCl (mdW bd ce s_115) H := by rw [e_115]; exact hP
                      have hD : va_D A (mdW bd ce s_115) := by rw [e_115]; exact hD
                      have i_115 : mInv s_115 := by rw [e_115]; exact i_94
                      have j_115 : wInv s_115 := by rw [e_115]; exact j_94
                      exact hret H locs s_115 _ _ hP hD hS (by (try simp only [mReq, if_neg c_5, c_60, c_77, c_107, ← e_68, ← e_94, ← e_115, if_true, if_false, Bool.false_eq_true, ↓reduceIte]) <;> (try simp only [mRB0, if_neg c_5, c_60, c_77, c_107, ← e_68, ← e_94, ← e_115, if_true, if_false, Bool.false_eq_true, ↓reduceIte]) <;> (try simp only [mRB1, if_neg c_5, c_60, c_77, c_107, ← e_68, ← e_94, ← e_115, if_true, if_false, Bool.false_eq_true, ↓reduceIte]) <;> (try simp only [mRB2, if_neg c_5, c_60, c_77, c_107, ← e_68, ← e_94, ← e_115, if_true, if_false, Bool.false_eq_true, ↓reduceIte]) <;> (try simp only [mRH0, if_neg c_5, c_60, c_77, c_107, ← e_68, ← e_94, ← e_115, if_true, if_false, Bool.false_eq_true, ↓reduceIte]) <;> (try simp only [mRH1, if_neg c_5, c_60, c_77, c_107, ← e_68, ← e_94, ← e_115, if_true, if_false, Bool.false_eq_true, ↓reduceIte]) <;> (try simp only [mRH2, if_neg c_5, c_60, c_77, c_107, ← e_68, ← e_94, ← e_115, if_true, if_false, Bool.false_eq_true, ↓reduceIte]) <;> (first | done | with_reducible rfl | rw [e_115])) d_Mod_requestWord_118
        · skip
          exact absurd c_33 (by decide)
      · skip
        exact absurd c_15 (by decide)
  rw [hH, hlo] at goal
  exact goal
set_option maxHeartbeats 4000000 in
set_option maxRecDepth 100000 in
theorem c_Mod_thingWord (st : MS) (hv : mInv st) (hw : wInv st) : hx_Mv l D (tyM ce) adK adV tF (mdW bd ce) y_Mod_thingWord w_Mod_thingWord (rmD 6) [.ref (bd 0)] st (mThg st) := by
  refine hx_Mv.of (cc := b_Mod_thingWord) (maxL := 2) (by decide) rfl (Nat.le_of_ble_eq_true rfl) ?_
  intro p e s m below meth c A Q ls hI hX hA hP hD hS hl hret
  obtain ⟨hx, hb, hml, hown, hts⟩ := id hI
  have hts : ∀ w ∈ aw, w.before ([.ref (bd 0)] : List Value).toArray s = true := fun w h => hts w (List.mem_cons_of_mem _ h)
  have hown : s.vm.findClass "HeadDeskModel" = some m.cls := hown
  have hI : hx_In p s m ([.ref (bd 0)] : List Value).toArray c b_Mod_thingWord 2 "HeadDeskModel" aw := ⟨hx, hb, hml, hown, hts⟩
  have hP : va_P D vwCl (mdW bd ce st) s.heap := hP
  obtain ⟨H, hH⟩ : ∃ H, H = s.heap := ⟨_, rfl⟩
  obtain ⟨locs, hlo⟩ : ∃ locs : List Loc, locs = [] := ⟨_, rfl⟩
  have hS : va_S A s.heap H locs := by rw [hH, hlo]; exact hS
  have hP : va_P D vwCl (mdW bd ce st) H := by rw [hH]; exact hP
  have hl : lv_has ls 2 [(0, .ref (bd 0))] := hl
  have goal : W p l e (rmD 6) s m ([.ref (bd 0)] : List Value).toArray below meth c H locs 0 0 Q (F0 m 0 ls []) := by
    refine lv_aload_n hx hb d_Mod_thingWord_0 rfl (lv_at hl 0 rfl) ?_
    refine va_get (D := D) (ci := 4) (v := .int (gR st 31)) (C := "HeadDeskModel") (T := F_Mod) (N := 38) hx hb hts a_Mod hown hX.1 hP 0 rfl rfl 37 (by decide) (hts _ m_3_14) (fun _ h9 => h9) rfl d_Mod_thingWord_1 ?_
    refine lv_iconst (v := (-1)) hx hb d_Mod_thingWord_4 (by decide) ?_
    refine lv_icmp_eq (tgt := 12) hx hb d_Mod_thingWord_5 (by decide) (fun c_5 => ?_) (fun c_5 => ?_)
    · skip
      have c_5 : (gR st 31 = (-1)) := c_5
      refine lv_iconst (v := 0) hx hb d_Mod_thingWord_12 (by decide) ?_
      refine lv_istore_n (lv' := [(1, .int 0), (0, .ref (bd 0))]) hx hb d_Mod_thingWord_13 rfl hl (by decide) rfl (fun ls hl => ?_)
      refine lv_iload_n hx hb d_Mod_thingWord_14 rfl (lv_at hl 0 rfl) ?_
      refine lv_if_ne (tgt := 32) hx hb d_Mod_thingWord_15 (by decide) (fun c_15 => ?_) (fun c_15 => ?_)
      · skip
        exact absurd (by decide) c_15
      · skip
        refine lv_aload_n hx hb d_Mod_thingWord_18 rfl (lv_at hl 1 rfl) ?_
        refine va_ldcS hx hb hown (hX.2.2.2.2.2.1 _ _ _ _ st_31) d_Mod_thingWord_19 ?_
        refine hx_Vz (wr := []) (As := [.ref (adK 31)]) (rest := []) hI (c_Mod_isWordL st hv hw (by decide) sw_31) (cw_V (C := "HeadDeskModel") 1 hts m_3_182 m_3_184 ms_40 m_1_5 m_3_185 (by decide +kernel) ⟨by decide, by decide⟩) hX hA hP hD hS [0, 1, 2, 3, 4, 5, 6] [] rfl rfl (by decide) (by decide) (by decide) (va_recv hX.1 hP (ci := 4) (q0 := 0) rfl rfl) rfl hl.1 rfl (Nat.le_of_ble_eq_true rfl) d_Mod_thingWord_21 ⟨Nat.zero_le _, Nat.zero_le _⟩ (fun H locs hP hD hS => ?_)
        have hP : va_P D vwCl (mdW bd ce st) H := hP
        have hD : va_D A (mdW bd ce st) := hD
        refine lv_if_eq (tgt := 32) hx hb d_Mod_thingWord_24 (by decide) (fun c_24 => ?_) (fun c_24 => ?_)
        · skip
          have c_24 : (mIsW st t_no_store) = false := bI_0 c_24
          refine lv_iload_n hx hb d_Mod_thingWord_32 rfl (lv_at hl 0 rfl) ?_
          refine lv_if_ne (tgt := 50) hx hb d_Mod_thingWord_33 (by decide) (fun c_33 => ?_) (fun c_33 => ?_)
          · skip
            exact absurd (by decide) c_33
          · skip
            refine lv_aload_n hx hb d_Mod_thingWord_36 rfl (lv_at hl 1 rfl) ?_
            refine va_ldcS hx hb hown (hX.2.2.2.2.2.1 _ _ _ _ st_26) d_Mod_thingWord_37 ?_
            refine hx_Vz (wr := []) (As := [.ref (adK 26)]) (rest := []) hI (c_Mod_isWordL st hv hw (by decide) sw_26) (cw_V (C := "HeadDeskModel") 1 hts m_3_182 m_3_184 ms_40 m_1_5 m_3_185 (by decide +kernel) ⟨by decide, by decide⟩) hX hA hP hD hS [0, 1, 2, 3, 4, 5, 6] [] rfl rfl (by decide) (by decide) (by decide) (va_recv hX.1 hP (ci := 4) (q0 := 0) rfl rfl) rfl hl.1 rfl (Nat.le_of_ble_eq_true rfl) d_Mod_thingWord_39 ⟨Nat.zero_le _, Nat.zero_le _⟩ (fun H locs hP hD hS => ?_)
            have hP : va_P D vwCl (mdW bd ce st) H := hP
            have hD : va_D A (mdW bd ce st) := hD
            refine lv_if_eq (tgt := 50) hx hb d_Mod_thingWord_42 (by decide) (fun c_42 => ?_) (fun c_42 => ?_)
            · skip
              have c_42 : (mIsW st t_no_cache) = false := bI_0 c_42
              refine lv_iload_n hx hb d_Mod_thingWord_50 rfl (lv_at hl 0 rfl) ?_
              refine lv_if_eq (tgt := 71) hx hb d_Mod_thingWord_51 (by decide) (fun c_51 => ?_) (fun c_51 => ?_)
              · skip
                refine lv_iload_n hx hb d_Mod_thingWord_71 rfl (lv_at hl 0 rfl) ?_
                refine lv_if_eq (tgt := 92) hx hb d_Mod_thingWord_72 (by decide) (fun c_72 => ?_) (fun c_72 => ?_)
                · skip
                  refine lv_iload_n hx hb d_Mod_thingWord_92 rfl (lv_at hl 0 rfl) ?_
                  refine lv_if_eq (tgt := 113) hx hb d_Mod_thingWord_93 (by decide) (fun c_93 => ?_) (fun c_93 => ?_)
                  · skip
                    exact hret H locs st _ _ hP hD hS (by (try simp only [mThg, if_pos c_5, c_24, c_42, if_true, if_false, Bool.false_eq_true, ↓reduceIte]) <;> (try simp only [mTB0, if_pos c_5, c_24, c_42, if_true, if_false, Bool.false_eq_true, ↓reduceIte]) <;> (try simp only [mTB1, if_pos c_5, c_24, c_42, if_true, if_false, Bool.false_eq_true, ↓reduceIte]) <;> (try simp only [mTH0, if_pos c_5, c_24, c_42, if_true, if_false, Bool.false_eq_true, ↓reduceIte]) <;> (try simp only [mTH1, if_pos c_5, c_24, c_42, if_true, if_false, Bool.false_eq_true, ↓reduceIte]) <;> (try simp only [mTH2, if_pos c_5, c_24, c_42, if_true, if_false, Bool.false_eq_true, ↓reduceIte]) <;> (first | done | with_reducible rfl)) d_Mod_thingWord_113
                  · skip
                    exact absurd (by decide) c_93
                · skip
                  exact absurd (by decide) c_72
              · skip
                exact absurd (by decide) c_51
            · skip
              have c_42 : (mIsW st t_no_cache) = true := bI_1 c_42
              refine lv_aload_n hx hb d_Mod_thingWord_45 rfl (lv_at hl 1 rfl) ?_
              refine lv_iconst (v := 1) hx hb d_Mod_thingWord_46 (by decide) ?_
              refine va_put (D := D) (ci := 4) (v := .int 1) (ty := .boolean) (C := "HeadDeskModel") (T := F_Mod) (N := 38) hx hb hts a_Mod t_Mod k_Mod n_Mod hown hX.1 hP hD hS 0 rfl rfl 27 (by decide) (hts _ m_3_4) (fun _ h9 => h9) rfl (by decide +kernel) rfl rfl (Nat.le_of_ble_eq_true rfl) d_Mod_thingWord_47 (fun H locs hP hD hS => ?_)
              have hP : va_P D vwCl (mdW bd ce (wR st 25 1)) H := hP
              have hD : va_D A (mdW bd ce (wR st 25 1)) := hD
              obtain ⟨s_47, e_47⟩ : ∃ z : MS, z = wR st 25 1 := ⟨_, rfl⟩
              have hP : va_P D vwCl (mdW bd ce s_47) H := by rw [e_47]; exact hP
              have hD : va_D A (mdW bd ce s_47) := by rw [e_47]; exact hD
              have i_47 : mInv s_47 := by rw [e_47]; exact hv
              have j_47 : wInv s_47 := by rw [e_47]; exact hw
              refine lv_iload_n hx hb d_Mod_thingWord_50 rfl (lv_at hl 0 rfl) ?_
              refine lv_if_eq (tgt := 71) hx hb d_Mod_thingWord_51 (by decide) (fun c_51 => ?_) (fun c_51 => ?_)
              · skip
                refine lv_iload_n hx hb d_Mod_thingWord_71 rfl (lv_at hl 0 rfl) ?_
                refine lv_if_eq (tgt := 92) hx hb d_Mod_thingWord_72 (by decide) (fun c_72 => ?_) (fun c_72 => ?_)
                · skip
                  refine lv_iload_n hx hb d_Mod_thingWord_92 rfl (lv_at hl 0 rfl) ?_
                  refine lv_if_eq (tgt := 113) hx hb d_Mod_thingWord_93 (by decide) (fun c_93 => ?_) (fun c_93 => ?_)
                  · skip
                    exact hret H locs s_47 _ _ hP hD hS (by (try simp only [mThg, if_pos c_5, c_24, c_42, ← e_47, if_true, if_false, Bool.false_eq_true, ↓reduceIte]) <;> (try simp only [mTB0, if_pos c_5, c_24, c_42, ← e_47, if_true, if_false, Bool.false_eq_true, ↓reduceIte]) <;> (try simp only [mTB1, if_pos c_5, c_24, c_42, ← e_47, if_true, if_false, Bool.false_eq_true, ↓reduceIte]) <;> (try simp only [mTH0, if_pos c_5, c_24, c_42, ← e_47, if_true, if_false, Bool.false_eq_true, ↓reduceIte]) <;> (try simp only [mTH1, if_pos c_5, c_24, c_42, ← e_47, if_true, if_false, Bool.false_eq_true, ↓reduceIte]) <;> (try simp only [mTH2, if_pos c_5, c_24, c_42, ← e_47, if_true, if_false, Bool.false_eq_true, ↓reduceIte]) <;> (first | done | with_reducible rfl | rw [e_47])) d_Mod_thingWord_113
                  · skip
                    exact absurd (by decide) c_93
                · skip
                  exact absurd (by decide) c_72
              · skip
                exact absurd (by decide) c_51
        · skip
          have c_24 : (mIsW st t_no_store) = true := bI_1 c_24
          refine lv_aload_n hx hb d_Mod_thingWord_27 rfl (lv_at hl 1 rfl) ?_
          refine lv_iconst (v := 1) hx hb d_Mod_thingWord_28 (by decide) ?_
          refine va_put (D := D) (ci := 4) (v := .int 1) (ty := .boolean) (C := "HeadDeskModel") (T := F_Mod) (N := 38) hx hb hts a_Mod t_Mod k_Mod n_Mod hown hX.1 hP hD hS 0 rfl rfl 26 (by decide) (hts _ m_3_3) (fun _ h9 => h9) rfl (by decide +kernel) rfl rfl (Nat.le_of_ble_eq_true rfl) d_Mod_thingWord_29 (fun H locs hP hD hS => ?_)
          have hP : va_P D vwCl (mdW bd ce (wR st 24 1)) H := hP
          have hD : va_D A (mdW bd ce (wR st 24 1)) := hD
          obtain ⟨s_29, e_29⟩ : ∃ z : MS, z = wR st 24 1 := ⟨_, rfl⟩
          have hP : va_P D vwCl (mdW bd ce s_29) H := by rw [e_29]; exact hP
          have hD : va_D A (mdW bd ce s_29) := by rw [e_29]; exact hD
          have i_29 : mInv s_29 := by rw [e_29]; exact hv
          have j_29 : wInv s_29 := by rw [e_29]; exact hw
          refine lv_iload_n hx hb d_Mod_thingWord_32 rfl (lv_at hl 0 rfl) ?_
          refine lv_if_ne (tgt := 50) hx hb d_Mod_thingWord_33 (by decide) (fun c_33 => ?_) (fun c_33 => ?_)
          · skip
            exact absurd (by decide) c_33
          · skip
            refine lv_aload_n hx hb d_Mod_thingWord_36 rfl (lv_at hl 1 rfl) ?_
            refine va_ldcS hx hb hown (hX.2.2.2.2.2.1 _ _ _ _ st_26) d_Mod_thingWord_37 ?_
            refine hx_Vz (wr := []) (As := [.ref (adK 26)]) (rest := []) hI (c_Mod_isWordL s_29 i_29 j_29 (by decide) sw_26) (cw_V (C := "HeadDeskModel") 1 hts m_3_182 m_3_184 ms_40 m_1_5 m_3_185 (by decide +kernel) ⟨by decide, by decide⟩) hX hA hP hD hS [0, 1, 2, 3, 4, 5, 6] [] rfl rfl (by decide) (by decide) (by decide) (va_recv hX.1 hP (ci := 4) (q0 := 0) rfl rfl) rfl hl.1 rfl (Nat.le_of_ble_eq_true rfl) d_Mod_thingWord_39 ⟨Nat.zero_le _, Nat.zero_le _⟩ (fun H locs hP hD hS => ?_)
            have hP : va_P D vwCl (mdW bd ce s_29) H := hP
            have hD : va_D A (mdW bd ce s_29) := hD
            refine lv_if_eq (tgt := 50) hx hb d_Mod_thingWord_42 (by decide) (fun c_42 => ?_) (fun c_42 => ?_)
            · skip
              have c_42 : (mIsW s_29 t_no_cache) = false := bI_0 c_42
              refine lv_iload_n hx hb d_Mod_thingWord_50 rfl (lv_at hl 0 rfl) ?_
              refine lv_if_eq (tgt := 71) hx hb d_Mod_thingWord_51 (by decide) (fun c_51 => ?_) (fun c_51 => ?_)
              · skip
                refine lv_iload_n hx hb d_Mod_thingWord_71 rfl (lv_at hl 0 rfl) ?_
                refine lv_if_eq (tgt := 92) hx hb d_Mod_thingWord_72 (by decide) (fun c_72 => ?_) (fun c_72 => ?_)
                · skip
                  refine lv_iload_n hx hb d_Mod_thingWord_92 rfl (lv_at hl 0 rfl) ?_
                  refine lv_if_eq (tgt := 113) hx hb d_Mod_thingWord_93 (by decide) (fun c_93 => ?_) (fun c_93 => ?_)
                  · skip
                    exact hret H locs s_29 _ _ hP hD hS (by (try simp only [mThg, if_pos c_5, c_24, c_42, ← e_29, if_true, if_false, Bool.false_eq_true, ↓reduceIte]) <;> (try simp only [mTB0, if_pos c_5, c_24, c_42, ← e_29, if_true, if_false, Bool.false_eq_true, ↓reduceIte]) <;> (try simp only [mTB1, if_pos c_5, c_24, c_42, ← e_29, if_true, if_false, Bool.false_eq_true, ↓reduceIte]) <;> (try simp only [mTH0, if_pos c_5, c_24, c_42, ← e_29, if_true, if_false, Bool.false_eq_true, ↓reduceIte]) <;> (try simp only [mTH1, if_pos c_5, c_24, c_42, ← e_29, if_true, if_false, Bool.false_eq_true, ↓reduceIte]) <;> (try simp only [mTH2, if_pos c_5, c_24, c_42, ← e_29, if_true, if_false, Bool.false_eq_true, ↓reduceIte]) <;> (first | done | with_reducible rfl | rw [e_29])) d_Mod_thingWord_113
                  · skip
                    exact absurd (by decide) c_93
                · skip
                  exact absurd (by decide) c_72
              · skip
                exact absurd (by decide) c_51
            · skip
              have c_42 : (mIsW s_29 t_no_cache) = true := bI_1 c_42
              refine lv_aload_n hx hb d_Mod_thingWord_45 rfl (lv_at hl 1 rfl) ?_
              refine lv_iconst (v := 1) hx hb d_Mod_thingWord_46 (by decide) ?_
              refine va_put (D := D) (ci := 4) (v := .int 1) (ty := .boolean) (C := "HeadDeskModel") (T := F_Mod) (N := 38) hx hb hts a_Mod t_Mod k_Mod n_Mod hown hX.1 hP hD hS 0 rfl rfl 27 (by decide) (hts _ m_3_4) (fun _ h9 => h9) rfl (by decide +kernel) rfl rfl (Nat.le_of_ble_eq_true rfl) d_Mod_thingWord_47 (fun H locs hP hD hS => ?_)
              have hP : va_P D vwCl (mdW bd ce (wR s_29 25 1)) H := hP
              have hD : va_D A (mdW bd ce (wR s_29 25 1)) := hD
              obtain ⟨s_47, e_47⟩ : ∃ z : MS, z = wR s_29 25 1 := ⟨_, rfl⟩
              have hP : va_P D vwCl (mdW bd ce s_47) H := by rw [e_47]; exact hP
              have hD : va_D A (mdW bd ce s_47) := by rw [e_47]; exact hD
              have i_47 : mInv s_47 := by rw [e_47]; exact i_29
              have j_47 : wInv s_47 := by rw [e_47]; exact j_29
              refine lv_iload_n hx hb d_Mod_thingWord_50 rfl (lv_at hl 0 rfl) ?_
              refine lv_if_eq (tgt := 71) hx hb d_Mod_thingWord_51 (by decide) (fun c_51 => ?_) (fun c_51 => ?_)
              · skip
                refine lv_iload_n hx hb d_Mod_thingWord_71 rfl (lv_at hl 0 rfl) ?_
                refine lv_if_eq (tgt := 92) hx hb d_Mod_thingWord_72 (by decide) (fun c_72 => ?_) (fun c_72 => ?_)
                · skip
                  refine lv_iload_n hx hb d_Mod_thingWord_92 rfl (lv_at hl 0 rfl) ?_
                  refine lv_if_eq (tgt := 113) hx hb d_Mod_thingWord_93 (by decide) (fun c_93 => ?_) (fun c_93 => ?_)
                  · skip
                    exact hret H locs s_47 _ _ hP hD hS (by (try simp only [mThg, if_pos c_5, c_24, c_42, ← e_29, ← e_47, if_true, if_false, Bool.false_eq_true, ↓reduceIte]) <;> (try simp only [mTB0, if_pos c_5, c_24, c_42, ← e_29, ← e_47, if_true, if_false, Bool.false_eq_true, ↓reduceIte]) <;> (try simp only [mTB1, if_pos c_5, c_24, c_42, ← e_29, ← e_47, if_true, if_false, Bool.false_eq_true, ↓reduceIte]) <;> (try simp only [mTH0, if_pos c_5, c_24, c_42, ← e_29, ← e_47, if_true, if_false, Bool.false_eq_true, ↓reduceIte]) <;> (try simp only [mTH1, if_pos c_5, c_24, c_42, ← e_29, ← e_47, if_true, if_false, Bool.false_eq_true, ↓reduceIte]) <;> (try simp only [mTH2, if_pos c_5, c_24, c_42, ← e_29, ← e_47, if_true, if_false, Bool.false_eq_true, ↓reduceIte]) <;> (first | done | with_reducible rfl | rw [e_47])) d_Mod_thingWord_113
                  · skip
                    exact absurd (by decide) c_93
                · skip
                  exact absurd (by decide) c_72
              · skip
                exact absurd (by decide) c_51
    · skip
      have c_5 : ¬ (gR st 31 = (-1)) := c_5
      refine lv_iconst (v := 1) hx hb d_Mod_thingWord_8 (by decide) ?_
      refine lv_goto (tgt := 13) hx hb d_Mod_thingWord_9 (by decide) ?_
      refine lv_istore_n (lv' := [(1, .int 1), (0, .ref (bd 0))]) hx hb d_Mod_thingWord_13 rfl hl (by decide) rfl (fun ls hl => ?_)
      refine lv_iload_n hx hb d_Mod_thingWord_14 rfl (lv_at hl 0 rfl) ?_
      refine lv_if_ne (tgt := 32) hx hb d_Mod_thingWord_15 (by decide) (fun c_15 => ?_) (fun c_15 => ?_)
      · skip
        refine lv_iload_n hx hb d_Mod_thingWord_32 rfl (lv_at hl 0 rfl) ?_
        refine lv_if_ne (tgt := 50) hx hb d_Mod_thingWord_33 (by decide) (fun c_33 => ?_) (fun c_33 => ?_)
        · skip
          refine lv_iload_n hx hb d_Mod_thingWord_50 rfl (lv_at hl 0 rfl) ?_
          refine lv_if_eq (tgt := 71) hx hb d_Mod_thingWord_51 (by decide) (fun c_51 => ?_) (fun c_51 => ?_)
          · skip
            exact absurd c_51 (by decide)
          · skip
            refine lv_aload_n hx hb d_Mod_thingWord_54 rfl (lv_at hl 1 rfl) ?_
            refine va_ldcS hx hb hown (hX.2.2.2.2.2.1 _ _ _ _ st_28) d_Mod_thingWord_55 ?_
            refine hx_Vz (wr := []) (As := [.ref (adK 28)]) (rest := []) hI (c_Mod_isWordL st hv hw (by decide) sw_28) (cw_V (C := "HeadDeskModel") 1 hts m_3_182 m_3_184 ms_40 m_1_5 m_3_185 (by decide +kernel) ⟨by decide, by decide⟩) hX hA hP hD hS [0, 1, 2, 3, 4, 5, 6] [] rfl rfl (by decide) (by decide) (by decide) (va_recv hX.1 hP (ci := 4) (q0 := 0) rfl rfl) rfl hl.1 rfl (Nat.le_of_ble_eq_true rfl) d_Mod_thingWord_57 ⟨Nat.zero_le _, Nat.zero_le _⟩ (fun H locs hP hD hS => ?_)
            have hP : va_P D vwCl (mdW bd ce st) H := hP
            have hD : va_D A (mdW bd ce st) := hD
            refine lv_if_eq (tgt := 71) hx hb d_Mod_thingWord_60 (by decide) (fun c_60 => ?_) (fun c_60 => ?_)
            · skip
              have c_60 : (mIsW st t_max_age) = false := bI_0 c_60
              refine lv_iload_n hx hb d_Mod_thingWord_71 rfl (lv_at hl 0 rfl) ?_
              refine lv_if_eq (tgt := 92) hx hb d_Mod_thingWord_72 (by decide) (fun c_72 => ?_) (fun c_72 => ?_)
              · skip
                exact absurd c_72 (by decide)
              · skip
                refine lv_aload_n hx hb d_Mod_thingWord_75 rfl (lv_at hl 1 rfl) ?_
                refine va_ldcS hx hb hown (hX.2.2.2.2.2.1 _ _ _ _ st_32) d_Mod_thingWord_76 ?_
                refine hx_Vz (wr := []) (As := [.ref (adK 32)]) (rest := []) hI (c_Mod_isWordL st hv hw (by decide) sw_32) (cw_V (C := "HeadDeskModel") 1 hts m_3_182 m_3_184 ms_40 m_1_5 m_3_185 (by decide +kernel) ⟨by decide, by decide⟩) hX hA hP hD hS [0, 1, 2, 3, 4, 5, 6] [] rfl rfl (by decide) (by decide) (by decide) (va_recv hX.1 hP (ci := 4) (q0 := 0) rfl rfl) rfl hl.1 rfl (Nat.le_of_ble_eq_true rfl) d_Mod_thingWord_78 ⟨Nat.zero_le _, Nat.zero_le _⟩ (fun H locs hP hD hS => ?_)
                have hP : va_P D vwCl (mdW bd ce st) H := hP
                have hD : va_D A (mdW bd ce st) := hD
                refine lv_if_eq (tgt := 92) hx hb d_Mod_thingWord_81 (by decide) (fun c_81 => ?_) (fun c_81 => ?_)
                · skip
                  have c_81 : (mIsW st t_stale_if_error) = false := bI_0 c_81
                  refine lv_iload_n hx hb d_Mod_thingWord_92 rfl (lv_at hl 0 rfl) ?_
                  refine lv_if_eq (tgt := 113) hx hb d_Mod_thingWord_93 (by decide) (fun c_93 => ?_) (fun c_93 => ?_)
                  · skip
                    exact absurd c_93 (by decide)
                  · skip
                    refine lv_aload_n hx hb d_Mod_thingWord_96 rfl (lv_at hl 1 rfl) ?_
                    refine va_ldcS hx hb hown (hX.2.2.2.2.2.1 _ _ _ _ st_33) d_Mod_thingWord_97 ?_
                    refine hx_Vz (wr := []) (As := [.ref (adK 33)]) (rest := []) hI (c_Mod_isWordL st hv hw (by decide) sw_33) (cw_V (C := "HeadDeskModel") 1 hts m_3_182 m_3_184 ms_40 m_1_5 m_3_185 (by decide +kernel) ⟨by decide, by decide⟩) hX hA hP hD hS [0, 1, 2, 3, 4, 5, 6] [] rfl rfl (by decide) (by decide) (by decide) (va_recv hX.1 hP (ci := 4) (q0 := 0) rfl rfl) rfl hl.1 rfl (Nat.le_of_ble_eq_true rfl) d_Mod_thingWord_99 ⟨Nat.zero_le _, Nat.zero_le _⟩ (fun H locs hP hD hS => ?_)
                    have hP : va_P D vwCl (mdW bd ce st) H := hP
                    have hD : va_D A (mdW bd ce st) := hD
                    refine lv_if_eq (tgt := 113) hx hb d_Mod_thingWord_102 (by decide) (fun c_102 => ?_) (fun c_102 => ?_)
                    · skip
                      have c_102 : (mIsW st t_stale_while_revalidate) = false := bI_0 c_102
                      exact hret H locs st _ _ hP hD hS (by (try simp only [mThg, if_neg c_5, c_60, c_81, c_102, if_true, if_false, Bool.false_eq_true, ↓reduceIte]) <;> (try simp only [mTB0, if_neg c_5, c_60, c_81, c_102, if_true, if_false, Bool.false_eq_true, ↓reduceIte]) <;> (try simp only [mTB1, if_neg c_5, c_60, c_81, c_102, if_true, if_false, Bool.false_eq_true, ↓reduceIte]) <;> (try simp only [mTH0, if_neg c_5, c_60, c_81, c_102, if_true, if_false, Bool.false_eq_true, ↓reduceIte]) <;> (try simp only [mTH1, if_neg c_5, c_60, c_81, c_102, if_true, if_false, Bool.false_eq_true, ↓reduceIte]) <;> (try simp only [mTH2, if_neg c_5, c_60, c_81, c_102, if_true, if_false, Bool.false_eq_true, ↓reduceIte]) <;> (first | done | with_reducible rfl)) d_Mod_thingWord_113
                    · skip
                      have c_102 : (mIsW st t_stale_while_revalidate) = true := bI_1 c_102
                      refine lv_aload_n hx hb d_Mod_thingWord_105 rfl (lv_at hl 1 rfl) ?_
                      refine lv_aload_n hx hb d_Mod_thingWord_106 rfl (lv_at hl 1 rfl) ?_
                      refine va_get (D := D) (ci := 4) (v := .int (gR st 31)) (C := "HeadDeskModel") (T := F_Mod) (N := 38) hx hb hts a_Mod hown hX.1 hP 0 rfl rfl 37 (by decide) (hts _ m_3_14) (fun _ h9 => h9) rfl d_Mod_thingWord_107 ?_
                      refine va_put (D := D) (ci := 4) (v := .int (gR st 31)) (ty := .int) (C := "HeadDeskModel") (T := F_Mod) (N := 38) hx hb hts a_Mod t_Mod k_Mod n_Mod hown hX.1 hP hD hS 0 rfl rfl 25 (by decide) (hts _ m_3_2) (fun _ h9 => h9) rfl (by decide +kernel) rfl rfl (Nat.le_of_ble_eq_true rfl) d_Mod_thingWord_110 (fun H locs hP hD hS => ?_)
                      have hP : va_P D vwCl (mdW bd ce (wR st 23 (gR st 31))) H := hP
                      have hD : va_D A (mdW bd ce (wR st 23 (gR st 31))) := hD
                      obtain ⟨s_110, e_110⟩ : ∃ z : MS, z = wR st 23 (gR st 31) := ⟨_, rfl⟩
                      have hP : va_P D vwCl (mdW bd ce s_110) H := by rw [e_110]; exact hP
                      have hD : va_D A (mdW bd ce s_110) := by rw [e_110]; exact hD
                      have i_110 : mInv s_110 := by rw [e_110]; exact hv
                      have j_110 : wInv s_110 := by rw [e_110]; exact hw
                      exact hret H locs s_110 _ _ hP hD hS (by (try simp only [mThg, if_neg c_5, c_60, c_81, c_102, ← e_110, if_true, if_false, Bool.false_eq_true, ↓reduceIte]) <;> (try simp only [mTB0, if_neg c_5, c_60, c_81, c_102, ← e_110, if_true, if_false, Bool.false_eq_true, ↓reduceIte]) <;> (try simp only [mTB1, if_neg c_5, c_60, c_81, c_102, ← e_110, if_true, if_false, Bool.false_eq_true, ↓reduceIte]) <;> (try simp only [mTH0, if_neg c_5, c_60, c_81, c_102, ← e_110, if_true, if_false, Bool.false_eq_true, ↓reduceIte]) <;> (try simp only [mTH1, if_neg c_5, c_60, c_81, c_102, ← e_110, if_true, if_false, Bool.false_eq_true, ↓reduceIte]) <;> (try simp only [mTH2, if_neg c_5, c_60, c_81, c_102, ← e_110, if_true, if_false, Bool.false_eq_true, ↓reduceIte]) <;> (first | done | with_reducible rfl | rw [e_110])) d_Mod_thingWord_113
                · skip
                  have c_81 : (mIsW st t_stale_if_error) = true := bI_1 c_81
                  refine lv_aload_n hx hb d_Mod_thingWord_84 rfl (lv_at hl 1 rfl) ?_
                  refine lv_aload_n hx hb d_Mod_thingWord_85 rfl (lv_at hl 1 rfl) ?_
                  refine va_get (D := D) (ci := 4) (v := .int (gR st 31)) (C := "HeadDeskModel") (T := F_Mod) (N := 38) hx hb hts a_Mod hown hX.1 hP 0 rfl rfl 37 (by decide) (hts _ m_3_14) (fun _ h9 => h9) rfl d_Mod_thingWord_86 ?_
                  refine va_put (D := D) (ci := 4) (v := .int (gR st 31)) (ty := .int) (C := "HeadDeskModel") (T := F_Mod) (N := 38) hx hb hts a_Mod t_Mod k_Mod n_Mod hown hX.1 hP hD hS 0 rfl rfl 24 (by decide) (hts _ m_3_1) (fun _ h9 => h9) rfl (by decide +kernel) rfl rfl (Nat.le_of_ble_eq_true rfl) d_Mod_thingWord_89 (fun H locs hP hD hS => ?_)
                  have hP : va_P D vwCl (mdW bd ce (wR st 22 (gR st 31))) H := hP
                  have hD : va_D A (mdW bd ce (wR st 22 (gR st 31))) := hD
                  obtain ⟨s_89, e_89⟩ : ∃ z : MS, z = wR st 22 (gR st 31) := ⟨_, rfl⟩
                  have hP : va_P D vwCl (mdW bd ce s_89) H := by rw [e_89]; exact hP
                  have hD : va_D A (mdW bd ce s_89) := by rw [e_89]; exact hD
                  have i_89 : mInv s_89 := by rw [e_89]; exact hv
                  have j_89 : wInv s_89 := by rw [e_89]; exact hw
                  refine lv_iload_n hx hb d_Mod_thingWord_92 rfl (lv_at hl 0 rfl) ?_
                  refine lv_if_eq (tgt := 113) hx hb d_Mod_thingWord_93 (by decide) (fun c_93 => ?_) (fun c_93 => ?_)
                  · skip
                    exact absurd c_93 (by decide)
                  · skip
                    refine lv_aload_n hx hb d_Mod_thingWord_96 rfl (lv_at hl 1 rfl) ?_
                    refine va_ldcS hx hb hown (hX.2.2.2.2.2.1 _ _ _ _ st_33) d_Mod_thingWord_97 ?_
                    refine hx_Vz (wr := []) (As := [.ref (adK 33)]) (rest := []) hI (c_Mod_isWordL s_89 i_89 j_89 (by decide) sw_33) (cw_V (C := "HeadDeskModel") 1 hts m_3_182 m_3_184 ms_40 m_1_5 m_3_185 (by decide +kernel) ⟨by decide, by decide⟩) hX hA hP hD hS [0, 1, 2, 3, 4, 5, 6] [] rfl rfl (by decide) (by decide) (by decide) (va_recv hX.1 hP (ci := 4) (q0 := 0) rfl rfl) rfl hl.1 rfl (Nat.le_of_ble_eq_true rfl) d_Mod_thingWord_99 ⟨Nat.zero_le _, Nat.zero_le _⟩ (fun H locs hP hD hS => ?_)
                    have hP : va_P D vwCl (mdW bd ce s_89) H := hP
                    have hD : va_D A (mdW bd ce s_89) := hD
                    refine lv_if_eq (tgt := 113) hx hb d_Mod_thingWord_102 (by decide) (fun c_102 => ?_) (fun c_102 => ?_)
                    · skip
                      have c_102 : (mIsW s_89 t_stale_while_revalidate) = false := bI_0 c_102
                      exact hret H locs s_89 _ _ hP hD hS (by (try simp only [mThg, if_neg c_5, c_60, c_81, c_102, ← e_89, if_true, if_false, Bool.false_eq_true, ↓reduceIte]) <;> (try simp only [mTB0, if_neg c_5, c_60, c_81, c_102, ← e_89, if_true, if_false, Bool.false_eq_true, ↓reduceIte]) <;> (try simp only [mTB1, if_neg c_5, c_60, c_81, c_102, ← e_89, if_true, if_false, Bool.false_eq_true, ↓reduceIte]) <;> (try simp only [mTH0, if_neg c_5, c_60, c_81, c_102, ← e_89, if_true, if_false, Bool.false_eq_true, ↓reduceIte]) <;> (try simp only [mTH1, if_neg c_5, c_60, c_81, c_102, ← e_89, if_true, if_false, Bool.false_eq_true, ↓reduceIte]) <;> (try simp only [mTH2, if_neg c_5, c_60, c_81, c_102, ← e_89, if_true, if_false, Bool.false_eq_true, ↓reduceIte]) <;> (first | done | with_reducible rfl | rw [e_89])) d_Mod_thingWord_113
                    · skip
                      have c_102 : (mIsW s_89 t_stale_while_revalidate) = true := bI_1 c_102
                      refine lv_aload_n hx hb d_Mod_thingWord_105 rfl (lv_at hl 1 rfl) ?_
                      refine lv_aload_n hx hb d_Mod_thingWord_106 rfl (lv_at hl 1 rfl) ?_
                      refine va_get (D := D) (ci := 4) (v := .int (gR s_89 31)) (C := "HeadDeskModel") (T := F_Mod) (N := 38) hx hb hts a_Mod hown hX.1 hP 0 rfl rfl 37 (by decide) (hts _ m_3_14) (fun _ h9 => h9) rfl d_Mod_thingWord_107 ?_
                      refine va_put (D := D) (ci := 4) (v := .int (gR s_89 31)) (ty := .int) (C := "HeadDeskModel") (T := F_Mod) (N := 38) hx hb hts a_Mod t_Mod k_Mod n_Mod hown hX.1 hP hD hS 0 rfl rfl 25 (by decide) (hts _ m_3_2) (fun _ h9 => h9) rfl (by decide +kernel) rfl rfl (Nat.le_of_ble_eq_true rfl) d_Mod_thingWord_110 (fun H locs hP hD hS => ?_)
                      have hP : va_P D vwCl (mdW bd ce (wR s_89 23 (gR s_89 31))) H := hP
                      have hD : va_D A (mdW bd ce (wR s_89 23 (gR s_89 31))) := hD
                      obtain ⟨s_110, e_110⟩ : ∃ z : MS, z = wR s_89 23 (gR s_89 31) := ⟨_, rfl⟩
                      have hP : va_P D vwCl (mdW bd ce s_110) H := by rw [e_110]; exact hP
                      have hD : va_D A (mdW bd ce s_110) := by rw [e_110]; exact hD
                      have i_110 : mInv s_110 := by rw [e_110]; exact i_89
                      have j_110 : wInv s_110 := by rw [e_110]; exact j_89
                      exact hret H locs s_110 _ _ hP hD hS (by (try simp only [mThg, if_neg c_5, c_60, c_81, c_102, ← e_89, ← e_110, if_true, if_false, Bool.false_eq_true, ↓reduceIte]) <;> (try simp only [mTB0, if_neg c_5, c_60, c_81, c_102, ← e_89, ← e_110, if_true, if_false, Bool.false_eq_true, ↓reduceIte]) <;> (try simp only [mTB1, if_neg c_5, c_60, c_81, c_102, ← e_89, ← e_110, if_true, if_false, Bool.false_eq_true, ↓reduceIte]) <;> (try simp only [mTH0, if_neg c_5, c_60, c_81, c_102, ← e_89, ← e_110, if_true, if_false, Bool.false_eq_true, ↓reduceIte]) <;> (try simp only [mTH1, if_neg c_5, c_60, c_81, c_102, ← e_89, ← e_110, if_true, if_false, Bool.false_eq_true, ↓reduceIte]) <;> (try simp only [mTH2, if_neg c_5, c_60, c_81, c_102, ← e_89, ← e_110, if_true, if_false, Bool.false_eq_true, ↓reduceIte]) <;> (first | done | with_reducible rfl | rw [e_110])) d_Mod_thingWord_113
            · skip
              have c_60 : (mIsW st t_max_age) = true := bI_1 c_60
              refine lv_aload_n hx hb d_Mod_thingWord_63 rfl (lv_at hl 1 rfl) ?_
              refine lv_aload_n hx hb d_Mod_thingWord_64 rfl (lv_at hl 1 rfl) ?_
              refine va_get (D := D) (ci := 4) (v := .int (gR st 31)) (C := "HeadDeskModel") (T := F_Mod) (N := 38) hx hb hts a_Mod hown hX.1 hP 0 rfl rfl 37 (by decide) (hts _ m_3_14) (fun _ h9 => h9) rfl d_Mod_thingWord_65 ?_
              refine va_put (D := D) (ci := 4) (v := .int (gR st 31)) (ty := .int) (C := "HeadDeskModel") (T := F_Mod) (N := 38) hx hb hts a_Mod t_Mod k_Mod n_Mod hown hX.1 hP hD hS 0 rfl rfl 23 (by decide) (hts _ m_3_0) (fun _ h9 => h9) rfl (by decide +kernel) rfl rfl (Nat.le_of_ble_eq_true rfl) d_Mod_thingWord_68 (fun H locs hP hD hS => ?_)
              have hP : va_P D vwCl (mdW bd ce (wR st 21 (gR st 31))) H := hP
              have hD : va_D A (mdW bd ce (wR st 21 (gR st 31))) := hD
              obtain ⟨s_68, e_68⟩ : ∃ z : MS, z = wR st 21 (gR st 31) := ⟨_, rfl⟩
              have hP : va_P D vwCl (mdW bd ce s_68) H := by rw [e_68]; exact hP
              have hD : va_D A (mdW bd ce s_68) := by rw [e_68]; exact hD
              have i_68 : mInv s_68 := by rw [e_68]; exact hv
              have j_68 : wInv s_68 := by rw [e_68]; exact hw
              refine lv_iload_n hx hb d_Mod_thingWord_71 rfl (lv_at hl 0 rfl) ?_
              refine lv_if_eq (tgt := 92) hx hb d_Mod_thingWord_72 (by decide) (fun c_72 => ?_) (fun c_72 => ?_)
              · skip
                exact absurd c_72 (by decide)
              · skip
                refine lv_aload_n hx hb d_Mod_thingWord_75 rfl (lv_at hl 1 rfl) ?_
                refine va_ldcS hx hb hown (hX.2.2.2.2.2.1 _ _ _ _ st_32) d_Mod_thingWord_76 ?_
                refine hx_Vz (wr := []) (As := [.ref (adK 32)]) (rest := []) hI (c_Mod_isWordL s_68 i_68 j_68 (by decide) sw_32) (cw_V (C := "HeadDeskModel") 1 hts m_3_182 m_3_184 ms_40 m_1_5 m_3_185 (by decide +kernel) ⟨by decide, by decide⟩) hX hA hP hD hS [0, 1, 2, 3, 4, 5, 6] [] rfl rfl (by decide) (by decide) (by decide) (va_recv hX.1 hP (ci := 4) (q0 := 0) rfl rfl) rfl hl.1 rfl (Nat.le_of_ble_eq_true rfl) d_Mod_thingWord_78 ⟨Nat.zero_le _, Nat.zero_le _⟩ (fun H locs hP hD hS => ?_)
                have hP : va_P D vwCl (mdW bd ce s_68) H := hP
                have hD : va_D A (mdW bd ce s_68) := hD
                refine lv_if_eq (tgt := 92) hx hb d_Mod_thingWord_81 (by decide) (fun c_81 => ?_) (fun c_81 => ?_)
                · skip
                  have c_81 : (mIsW s_68 t_stale_if_error) = false := bI_0 c_81
                  refine lv_iload_n hx hb d_Mod_thingWord_92 rfl (lv_at hl 0 rfl) ?_
                  refine lv_if_eq (tgt := 113) hx hb d_Mod_thingWord_93 (by decide) (fun c_93 => ?_) (fun c_93 => ?_)
                  · skip
                    exact absurd c_93 (by decide)
                  · skip
                    refine lv_aload_n hx hb d_Mod_thingWord_96 rfl (lv_at hl 1 rfl) ?_
                    refine va_ldcS hx hb hown (hX.2.2.2.2.2.1 _ _ _ _ st_33) d_Mod_thingWord_97 ?_
                    refine hx_Vz (wr := []) (As := [.ref (adK 33)]) (rest := []) hI (c_Mod_isWordL s_68 i_68 j_68 (by decide) sw_33) (cw_V (C := "HeadDeskModel") 1 hts m_3_182 m_3_184 ms_40 m_1_5 m_3_185 (by decide +kernel) ⟨by decide, by decide⟩) hX hA hP hD hS [0, 1, 2, 3, 4, 5, 6] [] rfl rfl (by decide) (by decide) (by decide) (va_recv hX.1 hP (ci := 4) (q0 := 0) rfl rfl) rfl hl.1 rfl (Nat.le_of_ble_eq_true rfl) d_Mod_thingWord_99 ⟨Nat.zero_le _, Nat.zero_le _⟩ (fun H locs hP hD hS => ?_)
                    have hP : va_P D vwCl (mdW bd ce s_68) H := hP
                    have hD : va_D A (mdW bd ce s_68) := hD
                    refine lv_if_eq (tgt := 113) hx hb d_Mod_thingWord_102 (by decide) (fun c_102 => ?_) (fun c_102 => ?_)
                    · skip
                      have c_102 : (mIsW s_68 t_stale_while_revalidate) = false := bI_0 c_102
                      exact hret H locs s_68 _ _ hP hD hS (by (try simp only [mThg, if_neg c_5, c_60, c_81, c_102, ← e_68, if_true, if_false, Bool.false_eq_true, ↓reduceIte]) <;> (try simp only [mTB0, if_neg c_5, c_60, c_81, c_102, ← e_68, if_true, if_false, Bool.false_eq_true, ↓reduceIte]) <;> (try simp only [mTB1, if_neg c_5, c_60, c_81, c_102, ← e_68, if_true, if_false, Bool.false_eq_true, ↓reduceIte]) <;> (try simp only [mTH0, if_neg c_5, c_60, c_81, c_102, ← e_68, if_true, if_false, Bool.false_eq_true, ↓reduceIte]) <;> (try simp only [mTH1, if_neg c_5, c_60, c_81, c_102, ← e_68, if_true, if_false, Bool.false_eq_true, ↓reduceIte]) <;> (try simp only [mTH2, if_neg c_5, c_60, c_81, c_102, ← e_68, if_true, if_false, Bool.false_eq_true, ↓reduceIte]) <;> (first | done | with_reducible rfl | rw [e_68])) d_Mod_thingWord_113
                    · skip
                      have c_102 : (mIsW s_68 t_stale_while_revalidate) = true := bI_1 c_102
                      refine lv_aload_n hx hb d_Mod_thingWord_105 rfl (lv_at hl 1 rfl) ?_
                      refine lv_aload_n hx hb d_Mod_thingWord_106 rfl (lv_at hl 1 rfl) ?_
                      refine va_get (D := D) (ci := 4) (v := .int (gR s_68 31)) (C := "HeadDeskModel") (T := F_Mod) (N := 38) hx hb hts a_Mod hown hX.1 hP 0 rfl rfl 37 (by decide) (hts _ m_3_14) (fun _ h9 => h9) rfl d_Mod_thingWord_107 ?_
                      refine va_put (D := D) (ci := 4) (v := .int (gR s_68 31)) (ty := .int) (C := "HeadDeskModel") (T := F_Mod) (N := 38) hx hb hts a_Mod t_Mod k_Mod n_Mod hown hX.1 hP hD hS 0 rfl rfl 25 (by decide) (hts _ m_3_2) (fun _ h9 => h9) rfl (by decide +kernel) rfl rfl (Nat.le_of_ble_eq_true rfl) d_Mod_thingWord_110 (fun H locs hP hD hS => ?_)
                      have hP : va_P D vwCl (mdW bd ce (wR s_68 23 (gR s_68 31))) H := hP
                      have hD : va_D A (mdW bd ce (wR s_68 23 (gR s_68 31))) := hD
                      obtain ⟨s_110, e_110⟩ : ∃ z : MS, z = wR s_68 23 (gR s_68 31) := ⟨_, rfl⟩
                      have hP : va_P D vwCl (mdW bd ce s_110) H := by rw [e_110]; exact hP
                      have hD : va_D A (mdW bd ce s_110) := by rw [e_110]; exact hD
                      have i_110 : mInv s_110 := by rw [e_110]; exact i_68
                      have j_110 : wInv s_110 := by rw [e_110]; exact j_68
                      exact hret H locs s_110 _ _ hP hD hS (by (try simp only [mThg, if_neg c_5, c_60, c_81, c_102, ← e_68, ← e_110, if_true, if_false, Bool.false_eq_true, ↓reduceIte]) <;> (try simp only [mTB0, if_neg c_5, c_60, c_81, c_102, ← e_68, ← e_110, if_true, if_false, Bool.false_eq_true, ↓reduceIte]) <;> (try simp only [mTB1, if_neg c_5, c_60, c_81, c_102, ← e_68, ← e_110, if_true, if_false, Bool.false_eq_true, ↓reduceIte]) <;> (try simp only [mTH0, if_neg c_5, c_60, c_81, c_102, ← e_68, ← e_110, if_true, if_false, Bool.false_eq_true, ↓reduceIte]) <;> (try simp only [mTH1, if_neg c_5, c_60, c_81, c_102, ← e_68, ← e_110, if_true, if_false, Bool.false_eq_true, ↓reduceIte]) <;> (try simp only [mTH2, if_neg c_5, c_60, c_81, c_102, ← e_68, ← e_110, if_true, if_false, Bool.false_eq_true, ↓reduceIte]) <;> (first | done | with_reducible rfl | rw [e_110])) d_Mod_thingWord_113
                · skip
                  have c_81 : (mIsW s_68 t_stale_if_error) = true := bI_1 c_81
                  refine lv_aload_n hx hb d_Mod_thingWord_84 rfl (lv_at hl 1 rfl) ?_
                  refine lv_aload_n hx hb d_Mod_thingWord_85 rfl (lv_at hl 1 rfl) ?_
                  refine va_get (D := D) (ci := 4) (v := .int (gR s_68 31)) (C := "HeadDeskModel") (T := F_Mod) (N := 38) hx hb hts a_Mod hown hX.1 hP 0 rfl rfl 37 (by decide) (hts _ m_3_14) (fun _ h9 => h9) rfl d_Mod_thingWord_86 ?_
                  refine va_put (D := D) (ci := 4) (v := .int (gR s_68 31)) (ty := .int) (C := "HeadDeskModel") (T := F_Mod) (N := 38) hx hb hts a_Mod t_Mod k_Mod n_Mod hown hX.1 hP hD hS 0 rfl rfl 24 (by decide) (hts _ m_3_1) (fun _ h9 => h9) rfl (by decide +kernel) rfl rfl (Nat.le_of_ble_eq_true rfl) d_Mod_thingWord_89 (fun H locs hP hD hS => ?_)
                  have hP : va_P D vwCl (mdW bd ce (wR s_68 22 (gR s_68 31))) H := hP
                  have hD : va_D A (mdW bd ce (wR s_68 22 (gR s_68 31))) := hD
                  obtain ⟨s_89, e_89⟩ : ∃ z : MS, z = wR s_68 22 (gR s_68 31) := ⟨_, rfl⟩
                  have hP : va_P D vwCl (mdW bd ce s_89) H := by rw [e_89]; exact hP
                  have hD : va_D A (mdW bd ce s_89) := by rw [e_89]; exact hD
                  have i_89 : mInv s_89 := by rw [e_89]; exact i_68
                  have j_89 : wInv s_89 := by rw [e_89]; exact j_68
                  refine lv_iload_n hx hb d_Mod_thingWord_92 rfl (lv_at hl 0 rfl) ?_
                  refine lv_if_eq (tgt := 113) hx hb d_Mod_thingWord_93 (by decide) (fun c_93 => ?_) (fun c_93 => ?_)
                  · skip
                    exact absurd c_93 (by decide)
                  · skip
                    refine lv_aload_n hx hb d_Mod_thingWord_96 rfl (lv_at hl 1 rfl) ?_
                    refine va_ldcS hx hb hown (hX.2.2.2.2.2.1 _ _ _ _ st_33) d_Mod_thingWord_97 ?_
                    refine hx_Vz (wr := []) (As := [.ref (adK 33)]) (rest := []) hI (c_Mod_isWordL s_89 i_89 j_89 (by decide) sw_33) (cw_V (C := "HeadDeskModel") 1 hts m_3_182 m_3_184 ms_40 m_1_5 m_3_185 (by decide +kernel) ⟨by decide, by decide⟩) hX hA hP hD hS [0, 1, 2, 3, 4, 5, 6] [] rfl rfl (by decide) (by decide) (by decide) (va_recv hX.1 hP (ci := 4) (q0 := 0) rfl rfl) rfl hl.1 rfl (Nat.le_of_ble_eq_true rfl) d_Mod_thingWord_99 ⟨Nat.zero_le _, Nat.zero_le _⟩ (fun H locs hP hD hS => ?_)
                    have hP : va_P D vwCl (mdW bd ce s_89) H := hP
                    have hD : va_D A (mdW bd ce s_89) := hD
                    refine lv_if_eq (tgt := 113) hx hb d_Mod_thingWord_102 (by decide) (fun c_102 => ?_) (fun c_102 => ?_)
                    · skip
                      have c_102 : (mIsW s_89 t_stale_while_revalidate) = false := bI_0 c_102
                      exact hret H locs s_89 _ _ hP hD hS (by (try simp only [mThg, if_neg c_5, c_60, c_81, c_102, ← e_68, ← e_89, if_true, if_false, Bool.false_eq_true, ↓reduceIte]) <;> (try simp only [mTB0, if_neg c_5, c_60, c_81, c_102, ← e_68, ← e_89, if_true, if_false, Bool.false_eq_true, ↓reduceIte]) <;> (try simp only [mTB1, if_neg c_5, c_60, c_81, c_102, ← e_68, ← e_89, if_true, if_false, Bool.false_eq_true, ↓reduceIte]) <;> (try simp only [mTH0, if_neg c_5, c_60, c_81, c_102, ← e_68, ← e_89, if_true, if_false, Bool.false_eq_true, ↓reduceIte]) <;> (try simp only [mTH1, if_neg c_5, c_60, c_81, c_102, ← e_68, ← e_89, if_true, if_false, Bool.false_eq_true, ↓reduceIte]) <;> (try simp only [mTH2, if_neg c_5, c_60, c_81, c_102, ← e_68, ← e_89, if_true, if_false, Bool.false_eq_true, ↓reduceIte]) <;> (first | done | with_reducible rfl | rw [e_89])) d_Mod_thingWord_113
                    · skip
                      have c_102 : (mIsW s_89 t_stale_while_revalidate) = true := bI_1 c_102
                      refine lv_aload_n hx hb d_Mod_thingWord_105 rfl (lv_at hl 1 rfl) ?_
                      refine lv_aload_n hx hb d_Mod_thingWord_106 rfl (lv_at hl 1 rfl) ?_
                      refine va_get (D := D) (ci := 4) (v := .int (gR s_89 31)) (C := "HeadDeskModel") (T := F_Mod) (N := 38) hx hb hts a_Mod hown hX.1 hP 0 rfl rfl 37 (by decide) (hts _ m_3_14) (fun _ h9 => h9) rfl d_Mod_thingWord_107 ?_
                      refine va_put (D := D) (ci := 4) (v := .int (gR s_89 31)) (ty := .int) (C := "HeadDeskModel") (T := F_Mod) (N := 38) hx hb hts a_Mod t_Mod k_Mod n_Mod hown hX.1 hP hD hS 0 rfl rfl 25 (by decide) (hts _ m_3_2) (fun _ h9 => h9) rfl (by decide +kernel) rfl rfl (Nat.le_of_ble_eq_true rfl) d_Mod_thingWord_110 (fun H locs hP hD hS => ?_)
                      have hP : va_P D vwCl (mdW bd ce (wR s_89 23 (gR s_89 31))) H := hP
                      have hD : va_D A (mdW bd ce (wR s_89 23 (gR s_89 31))) := hD
                      obtain ⟨s_110, e_110⟩ : ∃ z : MS, z = wR s_89 23 (gR s_89 31) := ⟨_, rfl⟩
                      have hP : va_P D vwCl (mdW bd ce s_110) H := by rw [e_110]; exact hP
                      have hD : va_D A (mdW bd ce s_110) := by rw [e_110]; exact hD
                      have i_110 : mInv s_110 := by rw [e_110]; exact i_89
                      have j_110 : wInv s_110 := by rw [e_110]; exact j_89
                      exact hret H locs s_110 _ _ hP hD hS (by (try simp only [mThg, if_neg c_5, c_60, c_81, c_102, ← e_68, ← e_89, ← e_110, if_true, if_false, Bool.false_eq_true, ↓reduceIte]) <;> (try simp only [mTB0, if_neg c_5, c_60, c_81, c_102, ← e_68, ← e_89, ← e_110, if_true, if_false, Bool.false_eq_true, ↓reduceIte]) <;> (try simp only [mTB1, if_neg c_5, c_60, c_81, c_102, ← e_68, ← e_89, ← e_110, if_true, if_false, Bool.false_eq_true, ↓reduceIte]) <;> (try simp only [mTH0, if_neg c_5, c_60, c_81, c_102, ← e_68, ← e_89, ← e_110, if_true, if_false, Bool.false_eq_true, ↓reduceIte]) <;> (try simp only [mTH1, if_neg c_5, c_60, c_81, c_102, ← e_68, ← e_89, ← e_110, if_true, if_false, Bool.false_eq_true, ↓reduceIte]) <;> (try simp only [mTH2, if_neg c_5, c_60, c_81, c_102, ← e_68, ← e_89, ← e_110, if_true, if_false, Bool.false_eq_true, ↓reduceIte]) <;> (first | done | with_reducible rfl | rw [e_110])) d_Mod_thingWord_113
        · skip
          exact absurd c_33 (by decide)
      · skip
        exact absurd c_15 (by decide)
  rw [hH, hlo] at goal
  exact goal
