variable {l : Launch} {D : va_G} {bd : Nat → Nat} {ce : Nat → ClassId} {adK adV : Nat → Nat} {tF : Nat} {tys : List (ClassId × FieldType)}

set_option maxHeartbeats 4000000 in
set_option maxRecDepth 100000 in
theorem c_Mod_number (st : MS) (hv : mInv st) (x : Int32) : hx_Mi l D (tyM ce) adK adV tF (mdW bd ce) y_Mod_number w_Mod_number (rmD 2) [.ref (bd 0), .int x] st ((mNum st x).1) ((mNum st x).2) := by
  refine hx_Mi.of (cc := b_Mod_number) (maxL := 4) rfl (by decide) rfl (Nat.le_of_ble_eq_true rfl) ?_
  intro p e s m below meth c A Q ls hI hX hA hP hD hS hl hret
  obtain ⟨hx, hb, hml, hown, hts⟩ := id hI
  have hts : ∀ w ∈ aw, w.before ([.ref (bd 0), .int x] : List Value).toArray s = true := fun w h => hts w (List.mem_cons_of_mem _ h)
  have hown : s.vm.findClass "HeadDeskModel" = some m.cls := hown
  have hI : hx_In p s m ([.ref (bd 0), .int x] : List Value).toArray c b_Mod_number 4 "HeadDeskModel" aw := ⟨hx, hb, hml, hown, hts⟩
  have hP : va_P D vwCl (mdW bd ce st) s.heap := hP
  obtain ⟨H, hH⟩ : ∃ H, H = s.heap := ⟨_, rfl⟩
  obtain ⟨locs, hlo⟩ : ∃ locs : List Loc, locs = [] := ⟨_, rfl⟩
  have hS : va_S A s.heap H locs := by rw [hH, hlo]; exact hS
  have hP : va_P D vwCl (mdW bd ce st) H := by rw [hH]; exact hP
  have hl : lv_has ls 4 [(0, .ref (bd 0)), (1, .int x)] := hl
  have goal : W p l e (rmD 2) s m ([.ref (bd 0), .int x] : List Value).toArray below meth c H locs 0 0 Q (F0 m 0 ls []) := by
    refine lv_aload_n hx hb d_Mod_number_0 rfl (lv_at hl 0 rfl) ?_
    refine va_get (D := D) (ci := 4) (v := .int (gR st 4)) (C := "HeadDeskModel") (T := F_Mod) (N := 38) hx hb hts a_Mod hown hX.1 hP 0 rfl rfl 5 (by decide) (hts _ m_2_222) (fun _ h9 => h9) rfl d_Mod_number_1 ?_
    refine lv_if_eq (tgt := 9) hx hb d_Mod_number_4 (by decide) (fun c_4 => ?_) (fun c_4 => ?_)
    · skip
      have c_4 : (gR st 4 = 0) := c_4
      refine lv_aload_n hx hb d_Mod_number_9 rfl (lv_at hl 0 rfl) ?_
      refine va_get (D := D) (ci := 4) (v := .int (gR st 3)) (C := "HeadDeskModel") (T := F_Mod) (N := 38) hx hb hts a_Mod hown hX.1 hP 0 rfl rfl 4 (by decide) (hts _ m_2_221) (fun _ h9 => h9) rfl d_Mod_number_10 ?_
      refine lv_istore_n (lv' := [(2, .int (gR st 3)), (0, .ref (bd 0)), (1, .int x)]) hx hb d_Mod_number_13 rfl hl (by decide) rfl (fun ls hl => ?_)
      refine lv_iconst (v := 0) hx hb d_Mod_number_14 (by decide) ?_
      refine lv_istore_n (lv' := [(3, .int 0), (2, .int (gR st 3)), (0, .ref (bd 0)), (1, .int x)]) hx hb d_Mod_number_15 rfl hl (by decide) rfl (fun ls hl => ?_)
      have loop16 : ∀ (k : Nat) (v : Int32) (s1 : MS) (H : Heap) (locs : List Loc) (ls : Array Slot), (k : Int) ≤ 5 → (gR s1 3).toInt + (k : Int) = (gR st 3).toInt + 5 → mInv s1 → mNum st x = mNumE (mNumL (gR st 3) k s1 v) (gR st 3) x → va_P D vwCl (mdW bd ce s1) H → va_D A (mdW bd ce s1) → va_S A s.heap H locs → lv_has ls 4 [(3, .int v), (2, .int (gR st 3)), (0, .ref (bd 0)), (1, .int x)] → W p l e (rmD 2) s m ([.ref (bd 0), .int x] : List Value).toArray below meth c H locs 0 0 Q (F0 m 16 ls []) := by
        intro k
        induction k with
        | zero =>
          intro v s1 H locs ls hk hj hv hF hP hD hS hl
          refine lv_aload_n hx hb d_Mod_number_16 rfl (lv_at hl 2 rfl) ?_
          refine hx_Vi (wr := []) (As := []) (rest := []) hI (c_Mod_see s1 hv ) (cw_V (C := "HeadDeskModel") 0 hts m_3_109 m_3_111 ms_26 m_1_5 m_3_112 (by decide +kernel) ⟨by decide, by decide⟩) hX hA hP hD hS [0, 1, 2, 3, 4, 5, 6] [] rfl rfl (by decide) (by decide) (by decide) (va_recv hX.1 hP (ci := 4) (q0 := 0) rfl rfl) rfl hl.1 rfl (Nat.le_of_ble_eq_true rfl) d_Mod_number_17 ⟨Nat.zero_le _, Nat.zero_le _⟩ (fun H locs hP hD hS => ?_)
          have hP : va_P D vwCl (mdW bd ce s1) H := hP
          have hD : va_D A (mdW bd ce s1) := hD
          refine hx_Sz (wr := [(bd 0, .inr (4, [.int (gR s1 0), .ref (bd 1), .int (gR s1 1), .int (gR s1 2), .int (gR s1 3), .int (gR s1 4), .int (gR s1 5), .int (gR s1 6), .int (gR s1 7), .int (gR s1 8), .int (gR s1 9), .int (gR s1 10), .int (gR s1 11), .int (gR s1 12), .int (gR s1 13), .int (gR s1 14), .int (gR s1 15), .int (gR s1 16), .int (gR s1 17), .int (gR s1 18), .ref (bd 2), .int (gR s1 19), .int (gR s1 20), .int (gR s1 21), .int (gR s1 22), .int (gR s1 23), .int (gR s1 24), .int (gR s1 25), .int (gR s1 26), .ref (bd 3), .ref (bd 4), .ref (bd 5), .ref (bd 6), .int (gR s1 27), .int (gR s1 28), .int (gR s1 29), .int (gR s1 30), .int (gR s1 31)])), (bd 1, .inl (ce 0, 300, .inl (gTp s1))), (bd 2, .inl (ce 1, 8, .inl (gMt s1))), (bd 3, .inl (ce 2, 150, .inl (gNf s1))), (bd 4, .inl (ce 3, 150, .inl (gNt s1))), (bd 5, .inl (ce 4, 18, .inl (gKp s1))), (bd 6, .inl (ce 5, 8, .inl (gKm s1)))]) (As := [.int (mSee s1)]) (rest := []) hI (c_Mod_isDigit (mSee s1)) (cw_S 1 hts m_3_138 m_3_139 m_1_5 m_3_140 (by decide +kernel) ⟨by decide, by decide⟩) hX hA hP hD hS [] [0, 1, 2, 3, 4, 5, 6] rfl rfl (by decide) (by decide) (by decide) rfl hl.1 rfl (Nat.le_of_ble_eq_true rfl) d_Mod_number_20 ⟨Nat.zero_le _, Nat.zero_le _⟩ (fun H locs hP hD hS => ?_)
          have hP : va_P D vwCl (mdW bd ce s1) H := hP.sub [0, 1, 2, 3, 4, 5, 6] rfl
          have hD : va_D A (mdW bd ce s1) := hD.sub [0, 1, 2, 3, 4, 5, 6] (by decide) rfl
          refine lv_if_eq (tgt := 62) hx hb d_Mod_number_23 (by decide) (fun c_23 => ?_) (fun c_23 => ?_)
          · skip
            have c_23 : (isD (mSee s1)) = false := bI_0 c_23
            refine lv_aload_n hx hb d_Mod_number_62 rfl (lv_at hl 2 rfl) ?_
            refine va_get (D := D) (ci := 4) (v := .int (gR s1 3)) (C := "HeadDeskModel") (T := F_Mod) (N := 38) hx hb hts a_Mod hown hX.1 hP 0 rfl rfl 4 (by decide) (hts _ m_2_221) (fun _ h9 => h9) rfl d_Mod_number_63 ?_
            refine lv_iload_n hx hb d_Mod_number_66 rfl (lv_at hl 1 rfl) ?_
            refine lv_icmp_ne (tgt := 79) hx hb d_Mod_number_67 (by decide) (fun c_67 => ?_) (fun c_67 => ?_)
            · skip
              have c_67 : ¬ (gR s1 3 = gR st 3) := c_67
              refine lv_iload_n hx hb d_Mod_number_79 rfl (lv_at hl 0 rfl) ?_
              refine lv_iload_n hx hb d_Mod_number_80 rfl (lv_at hl 3 rfl) ?_
              refine lv_icmp_le (tgt := 90) hx hb d_Mod_number_81 (by decide) (fun c_81 => ?_) (fun c_81 => ?_)
              · skip
                have c_81 : (v ≤ x) := c_81
                refine lv_aload_n hx hb d_Mod_number_90 rfl (lv_at hl 2 rfl) ?_
                refine va_get (D := D) (ci := 4) (v := .int (gR s1 4)) (C := "HeadDeskModel") (T := F_Mod) (N := 38) hx hb hts a_Mod hown hX.1 hP 0 rfl rfl 5 (by decide) (hts _ m_2_222) (fun _ h9 => h9) rfl d_Mod_number_91 ?_
                refine lv_if_eq (tgt := 101) hx hb d_Mod_number_94 (by decide) (fun c_94 => ?_) (fun c_94 => ?_)
                · skip
                  have c_94 : (gR s1 4 = 0) := c_94
                  refine lv_iload_n hx hb d_Mod_number_101 rfl (lv_at hl 0 rfl) ?_
                  exact hret H locs s1 v _ _ hP hD hS (pr2 (by first | (rw [hF]; ((try simp only [mNumL]) <;> simp only [mNumL, mNumE, mNumA, mNumB, mNumC, c_23, if_neg c_67, if_pos c_81, if_pos c_94, fStop, if_true, if_false, Bool.false_eq_true, ↓reduceIte]); done) | (rw [hF]; ((try simp only [mNumL]) <;> simp only [mNumL, mNumE, mNumA, mNumB, mNumC, c_23, if_neg c_67, if_pos c_81, if_pos c_94, fStop, if_true, if_false, Bool.false_eq_true, ↓reduceIte]); with_reducible rfl))) d_Mod_number_102
                · skip
                  have c_94 : ¬ (gR s1 4 = 0) := c_94
                  refine lv_iconst (v := (-1)) hx hb d_Mod_number_97 (by decide) ?_
                  refine lv_goto (tgt := 102) hx hb d_Mod_number_98 (by decide) ?_
                  exact hret H locs s1 (-1) _ _ hP hD hS (pr2 (by first | (rw [hF]; ((try simp only [mNumL]) <;> simp only [mNumL, mNumE, mNumA, mNumB, mNumC, c_23, if_neg c_67, if_pos c_81, if_neg c_94, fStop, if_true, if_false, Bool.false_eq_true, ↓reduceIte]); done) | (rw [hF]; ((try simp only [mNumL]) <;> simp only [mNumL, mNumE, mNumA, mNumB, mNumC, c_23, if_neg c_67, if_pos c_81, if_neg c_94, fStop, if_true, if_false, Bool.false_eq_true, ↓reduceIte]); with_reducible rfl))) d_Mod_number_102
              · skip
                have c_81 : ¬ (v ≤ x) := c_81
                refine lv_aload_n hx hb d_Mod_number_84 rfl (lv_at hl 2 rfl) ?_
                refine lv_iload_n hx hb d_Mod_number_85 rfl (lv_at hl 1 rfl) ?_
                refine hx_Vz (wr := []) (As := [.int (gR st 3)]) (rest := []) hI (c_Mod_wrong s1 hv (gR st 3)) (cw_V (C := "HeadDeskModel") 1 hts m_3_124 m_3_126 ms_29 m_1_5 m_3_127 (by decide +kernel) ⟨by decide, by decide⟩) hX hA hP hD hS [0, 1, 2, 3, 4, 5, 6] [] rfl rfl (by decide) (by decide) (by decide) (va_recv hX.1 hP (ci := 4) (q0 := 0) rfl rfl) rfl hl.1 rfl (Nat.le_of_ble_eq_true rfl) d_Mod_number_86 ⟨Nat.zero_le _, Nat.zero_le _⟩ (fun H locs hP hD hS => ?_)
                obtain ⟨s_86, e_86⟩ : ∃ z : MS, z = mWr s1 (gR st 3) := ⟨_, rfl⟩
                have i_86 : mInv s_86 := by rw [e_86]; exact inv_wr hv
                have hP : va_P D vwCl (mdW bd ce s_86) H := by rw [e_86]; exact hP
                have hD : va_D A (mdW bd ce s_86) := by rw [e_86]; exact hD
                refine lv_pop hx hb d_Mod_number_89 rfl ?_
                refine lv_aload_n hx hb d_Mod_number_90 rfl (lv_at hl 2 rfl) ?_
                refine va_get (D := D) (ci := 4) (v := .int (gR s_86 4)) (C := "HeadDeskModel") (T := F_Mod) (N := 38) hx hb hts a_Mod hown hX.1 hP 0 rfl rfl 5 (by decide) (hts _ m_2_222) (fun _ h9 => h9) rfl d_Mod_number_91 ?_
                refine lv_if_eq (tgt := 101) hx hb d_Mod_number_94 (by decide) (fun c_94 => ?_) (fun c_94 => ?_)
                · skip
                  have c_94 : (gR s_86 4 = 0) := c_94
                  refine lv_iload_n hx hb d_Mod_number_101 rfl (lv_at hl 0 rfl) ?_
                  exact hret H locs s_86 v _ _ hP hD hS (pr2 (by first | (rw [hF]; ((try simp only [mNumL]) <;> simp only [mNumL, mNumE, mNumA, mNumB, mNumC, c_23, if_neg c_67, if_neg c_81, if_pos c_94, ← e_86, fStop, if_true, if_false, Bool.false_eq_true, ↓reduceIte]); done) | (rw [hF]; ((try simp only [mNumL]) <;> simp only [mNumL, mNumE, mNumA, mNumB, mNumC, c_23, if_neg c_67, if_neg c_81, if_pos c_94, ← e_86, fStop, if_true, if_false, Bool.false_eq_true, ↓reduceIte]); with_reducible rfl) | (rw [hF]; ((try simp only [mNumL]) <;> simp only [mNumL, mNumE, mNumA, mNumB, mNumC, c_23, if_neg c_67, if_neg c_81, if_pos c_94, ← e_86, fStop, if_true, if_false, Bool.false_eq_true, ↓reduceIte]); rw [e_86]))) d_Mod_number_102
                · skip
                  have c_94 : ¬ (gR s_86 4 = 0) := c_94
                  refine lv_iconst (v := (-1)) hx hb d_Mod_number_97 (by decide) ?_
                  refine lv_goto (tgt := 102) hx hb d_Mod_number_98 (by decide) ?_
                  exact hret H locs s_86 (-1) _ _ hP hD hS (pr2 (by first | (rw [hF]; ((try simp only [mNumL]) <;> simp only [mNumL, mNumE, mNumA, mNumB, mNumC, c_23, if_neg c_67, if_neg c_81, if_neg c_94, ← e_86, fStop, if_true, if_false, Bool.false_eq_true, ↓reduceIte]); done) | (rw [hF]; ((try simp only [mNumL]) <;> simp only [mNumL, mNumE, mNumA, mNumB, mNumC, c_23, if_neg c_67, if_neg c_81, if_neg c_94, ← e_86, fStop, if_true, if_false, Bool.false_eq_true, ↓reduceIte]); with_reducible rfl) | (rw [hF]; ((try simp only [mNumL]) <;> simp only [mNumL, mNumE, mNumA, mNumB, mNumC, c_23, if_neg c_67, if_neg c_81, if_neg c_94, ← e_86, fStop, if_true, if_false, Bool.false_eq_true, ↓reduceIte]); rw [e_86]))) d_Mod_number_102
            · skip
              have c_67 : (gR s1 3 = gR st 3) := c_67
              refine lv_aload_n hx hb d_Mod_number_70 rfl (lv_at hl 2 rfl) ?_
              refine lv_aload_n hx hb d_Mod_number_71 rfl (lv_at hl 2 rfl) ?_
              refine va_get (D := D) (ci := 4) (v := .int (gR s1 3)) (C := "HeadDeskModel") (T := F_Mod) (N := 38) hx hb hts a_Mod hown hX.1 hP 0 rfl rfl 4 (by decide) (hts _ m_2_221) (fun _ h9 => h9) rfl d_Mod_number_72 ?_
              refine hx_Vz (wr := []) (As := [.int (gR s1 3)]) (rest := []) hI (c_Mod_wrong s1 hv (gR s1 3)) (cw_V (C := "HeadDeskModel") 1 hts m_3_124 m_3_126 ms_29 m_1_5 m_3_127 (by decide +kernel) ⟨by decide, by decide⟩) hX hA hP hD hS [0, 1, 2, 3, 4, 5, 6] [] rfl rfl (by decide) (by decide) (by decide) (va_recv hX.1 hP (ci := 4) (q0 := 0) rfl rfl) rfl hl.1 rfl (Nat.le_of_ble_eq_true rfl) d_Mod_number_75 ⟨Nat.zero_le _, Nat.zero_le _⟩ (fun H locs hP hD hS => ?_)
              obtain ⟨s_75, e_75⟩ : ∃ z : MS, z = mWr s1 (gR s1 3) := ⟨_, rfl⟩
              have i_75 : mInv s_75 := by rw [e_75]; exact inv_wr hv
              have hP : va_P D vwCl (mdW bd ce s_75) H := by rw [e_75]; exact hP
              have hD : va_D A (mdW bd ce s_75) := by rw [e_75]; exact hD
              refine lv_pop hx hb d_Mod_number_78 rfl ?_
              refine lv_iload_n hx hb d_Mod_number_79 rfl (lv_at hl 0 rfl) ?_
              refine lv_iload_n hx hb d_Mod_number_80 rfl (lv_at hl 3 rfl) ?_
              refine lv_icmp_le (tgt := 90) hx hb d_Mod_number_81 (by decide) (fun c_81 => ?_) (fun c_81 => ?_)
              · skip
                have c_81 : (v ≤ x) := c_81
                refine lv_aload_n hx hb d_Mod_number_90 rfl (lv_at hl 2 rfl) ?_
                refine va_get (D := D) (ci := 4) (v := .int (gR s_75 4)) (C := "HeadDeskModel") (T := F_Mod) (N := 38) hx hb hts a_Mod hown hX.1 hP 0 rfl rfl 5 (by decide) (hts _ m_2_222) (fun _ h9 => h9) rfl d_Mod_number_91 ?_
                refine lv_if_eq (tgt := 101) hx hb d_Mod_number_94 (by decide) (fun c_94 => ?_) (fun c_94 => ?_)
                · skip
                  have c_94 : (gR s_75 4 = 0) := c_94
                  refine lv_iload_n hx hb d_Mod_number_101 rfl (lv_at hl 0 rfl) ?_
                  exact hret H locs s_75 v _ _ hP hD hS (pr2 (by first | (rw [hF]; ((try simp only [mNumL]) <;> simp only [mNumL, mNumE, mNumA, mNumB, mNumC, c_23, if_pos c_67, if_pos c_81, if_pos c_94, ← e_75, fStop, if_true, if_false, Bool.false_eq_true, ↓reduceIte]); done) | (rw [hF]; ((try simp only [mNumL]) <;> simp only [mNumL, mNumE, mNumA, mNumB, mNumC, c_23, if_pos c_67, if_pos c_81, if_pos c_94, ← e_75, fStop, if_true, if_false, Bool.false_eq_true, ↓reduceIte]); with_reducible rfl) | (rw [hF]; ((try simp only [mNumL]) <;> simp only [mNumL, mNumE, mNumA, mNumB, mNumC, c_23, if_pos c_67, if_pos c_81, if_pos c_94, ← e_75, fStop, if_true, if_false, Bool.false_eq_true, ↓reduceIte]); rw [e_75]))) d_Mod_number_102
                · skip
                  have c_94 : ¬ (gR s_75 4 = 0) := c_94
                  refine lv_iconst (v := (-1)) hx hb d_Mod_number_97 (by decide) ?_
                  refine lv_goto (tgt := 102) hx hb d_Mod_number_98 (by decide) ?_
                  exact hret H locs s_75 (-1) _ _ hP hD hS (pr2 (by first | (rw [hF]; ((try simp only [mNumL]) <;> simp only [mNumL, mNumE, mNumA, mNumB, mNumC, c_23, if_pos c_67, if_pos c_81, if_neg c_94, ← e_75, fStop, if_true, if_false, Bool.false_eq_true, ↓reduceIte]); done) | (rw [hF]; ((try simp only [mNumL]) <;> simp only [mNumL, mNumE, mNumA, mNumB, mNumC, c_23, if_pos c_67, if_pos c_81, if_neg c_94, ← e_75, fStop, if_true, if_false, Bool.false_eq_true, ↓reduceIte]); with_reducible rfl) | (rw [hF]; ((try simp only [mNumL]) <;> simp only [mNumL, mNumE, mNumA, mNumB, mNumC, c_23, if_pos c_67, if_pos c_81, if_neg c_94, ← e_75, fStop, if_true, if_false, Bool.false_eq_true, ↓reduceIte]); rw [e_75]))) d_Mod_number_102
              · skip
                have c_81 : ¬ (v ≤ x) := c_81
                refine lv_aload_n hx hb d_Mod_number_84 rfl (lv_at hl 2 rfl) ?_
                refine lv_iload_n hx hb d_Mod_number_85 rfl (lv_at hl 1 rfl) ?_
                refine hx_Vz (wr := []) (As := [.int (gR st 3)]) (rest := []) hI (c_Mod_wrong s_75 i_75 (gR st 3)) (cw_V (C := "HeadDeskModel") 1 hts m_3_124 m_3_126 ms_29 m_1_5 m_3_127 (by decide +kernel) ⟨by decide, by decide⟩) hX hA hP hD hS [0, 1, 2, 3, 4, 5, 6] [] rfl rfl (by decide) (by decide) (by decide) (va_recv hX.1 hP (ci := 4) (q0 := 0) rfl rfl) rfl hl.1 rfl (Nat.le_of_ble_eq_true rfl) d_Mod_number_86 ⟨Nat.zero_le _, Nat.zero_le _⟩ (fun H locs hP hD hS => ?_)
                obtain ⟨s_86, e_86⟩ : ∃ z : MS, z = mWr s_75 (gR st 3) := ⟨_, rfl⟩
                have i_86 : mInv s_86 := by rw [e_86]; exact inv_wr i_75
                have hP : va_P D vwCl (mdW bd ce s_86) H := by rw [e_86]; exact hP
                have hD : va_D A (mdW bd ce s_86) := by rw [e_86]; exact hD
                refine lv_pop hx hb d_Mod_number_89 rfl ?_
                refine lv_aload_n hx hb d_Mod_number_90 rfl (lv_at hl 2 rfl) ?_
                refine va_get (D := D) (ci := 4) (v := .int (gR s_86 4)) (C := "HeadDeskModel") (T := F_Mod) (N := 38) hx hb hts a_Mod hown hX.1 hP 0 rfl rfl 5 (by decide) (hts _ m_2_222) (fun _ h9 => h9) rfl d_Mod_number_91 ?_
                refine lv_if_eq (tgt := 101) hx hb d_Mod_number_94 (by decide) (fun c_94 => ?_) (fun c_94 => ?_)
                · skip
                  have c_94 : (gR s_86 4 = 0) := c_94
                  refine lv_iload_n hx hb d_Mod_number_101 rfl (lv_at hl 0 rfl) ?_
                  exact hret H locs s_86 v _ _ hP hD hS (pr2 (by first | (rw [hF]; ((try simp only [mNumL]) <;> simp only [mNumL, mNumE, mNumA, mNumB, mNumC, c_23, if_pos c_67, if_neg c_81, if_pos c_94, ← e_75, ← e_86, fStop, if_true, if_false, Bool.false_eq_true, ↓reduceIte]); done) | (rw [hF]; ((try simp only [mNumL]) <;> simp only [mNumL, mNumE, mNumA, mNumB, mNumC, c_23, if_pos c_67, if_neg c_81, if_pos c_94, ← e_75, ← e_86, fStop, if_true, if_false, Bool.false_eq_true, ↓reduceIte]); with_reducible rfl) | (rw [hF]; ((try simp only [mNumL]) <;> simp only [mNumL, mNumE, mNumA, mNumB, mNumC, c_23, if_pos c_67, if_neg c_81, if_pos c_94, ← e_75, ← e_86, fStop, if_true, if_false, Bool.false_eq_true, ↓reduceIte]); rw [e_86]))) d_Mod_number_102
                · skip
                  have c_94 : ¬ (gR s_86 4 = 0) := c_94
                  refine lv_iconst (v := (-1)) hx hb d_Mod_number_97 (by decide) ?_
                  refine lv_goto (tgt := 102) hx hb d_Mod_number_98 (by decide) ?_
                  exact hret H locs s_86 (-1) _ _ hP hD hS (pr2 (by first | (rw [hF]; ((try simp only [mNumL]) <;> simp only [mNumL, mNumE, mNumA, mNumB, mNumC, c_23, if_pos c_67, if_neg c_81, if_neg c_94, ← e_75, ← e_86, fStop, if_true, if_false, Bool.false_eq_true, ↓reduceIte]); done) | (rw [hF]; ((try simp only [mNumL]) <;> simp only [mNumL, mNumE, mNumA, mNumB, mNumC, c_23, if_pos c_67, if_neg c_81, if_neg c_94, ← e_75, ← e_86, fStop, if_true, if_false, Bool.false_eq_true, ↓reduceIte]); with_reducible rfl) | (rw [hF]; ((try simp only [mNumL]) <;> simp only [mNumL, mNumE, mNumA, mNumB, mNumC, c_23, if_pos c_67, if_neg c_81, if_neg c_94, ← e_75, ← e_86, fStop, if_true, if_false, Bool.false_eq_true, ↓reduceIte]); rw [e_86]))) d_Mod_number_102
          · skip
            have c_23 : (isD (mSee s1)) = true := bI_1 c_23
            refine lv_aload_n hx hb d_Mod_number_26 rfl (lv_at hl 2 rfl) ?_
            refine va_get (D := D) (ci := 4) (v := .int (gR s1 3)) (C := "HeadDeskModel") (T := F_Mod) (N := 38) hx hb hts a_Mod hown hX.1 hP 0 rfl rfl 4 (by decide) (hts _ m_2_221) (fun _ h9 => h9) rfl d_Mod_number_27 ?_
            refine lv_iload_n hx hb d_Mod_number_30 rfl (lv_at hl 1 rfl) ?_
            refine lv_isub hx hb d_Mod_number_31 ?_
            refine lv_iconst (v := 5) hx hb d_Mod_number_32 (by decide) ?_
            refine lv_icmp_ge (tgt := 62) hx hb d_Mod_number_33 (by decide) (fun c_33 => ?_) (fun c_33 => ?_)
            · skip
              have c_33 : (5 ≤ (gR s1 3) - (gR st 3)) := c_33
              refine lv_aload_n hx hb d_Mod_number_62 rfl (lv_at hl 2 rfl) ?_
              refine va_get (D := D) (ci := 4) (v := .int (gR s1 3)) (C := "HeadDeskModel") (T := F_Mod) (N := 38) hx hb hts a_Mod hown hX.1 hP 0 rfl rfl 4 (by decide) (hts _ m_2_221) (fun _ h9 => h9) rfl d_Mod_number_63 ?_
              refine lv_iload_n hx hb d_Mod_number_66 rfl (lv_at hl 1 rfl) ?_
              refine lv_icmp_ne (tgt := 79) hx hb d_Mod_number_67 (by decide) (fun c_67 => ?_) (fun c_67 => ?_)
              · skip
                have c_67 : ¬ (gR s1 3 = gR st 3) := c_67
                refine lv_iload_n hx hb d_Mod_number_79 rfl (lv_at hl 0 rfl) ?_
                refine lv_iload_n hx hb d_Mod_number_80 rfl (lv_at hl 3 rfl) ?_
                refine lv_icmp_le (tgt := 90) hx hb d_Mod_number_81 (by decide) (fun c_81 => ?_) (fun c_81 => ?_)
                · skip
                  have c_81 : (v ≤ x) := c_81
                  refine lv_aload_n hx hb d_Mod_number_90 rfl (lv_at hl 2 rfl) ?_
                  refine va_get (D := D) (ci := 4) (v := .int (gR s1 4)) (C := "HeadDeskModel") (T := F_Mod) (N := 38) hx hb hts a_Mod hown hX.1 hP 0 rfl rfl 5 (by decide) (hts _ m_2_222) (fun _ h9 => h9) rfl d_Mod_number_91 ?_
                  refine lv_if_eq (tgt := 101) hx hb d_Mod_number_94 (by decide) (fun c_94 => ?_) (fun c_94 => ?_)
                  · skip
                    have c_94 : (gR s1 4 = 0) := c_94
                    refine lv_iload_n hx hb d_Mod_number_101 rfl (lv_at hl 0 rfl) ?_
                    exact hret H locs s1 v _ _ hP hD hS (pr2 (by first | (rw [hF]; ((try simp only [mNumL]) <;> simp only [mNumL, mNumE, mNumA, mNumB, mNumC, c_23, if_pos c_33, if_neg c_67, if_pos c_81, if_pos c_94, fStop, if_true, if_false, Bool.false_eq_true, ↓reduceIte]); done) | (rw [hF]; ((try simp only [mNumL]) <;> simp only [mNumL, mNumE, mNumA, mNumB, mNumC, c_23, if_pos c_33, if_neg c_67, if_pos c_81, if_pos c_94, fStop, if_true, if_false, Bool.false_eq_true, ↓reduceIte]); with_reducible rfl))) d_Mod_number_102
                  · skip
                    have c_94 : ¬ (gR s1 4 = 0) := c_94
                    refine lv_iconst (v := (-1)) hx hb d_Mod_number_97 (by decide) ?_
                    refine lv_goto (tgt := 102) hx hb d_Mod_number_98 (by decide) ?_
                    exact hret H locs s1 (-1) _ _ hP hD hS (pr2 (by first | (rw [hF]; ((try simp only [mNumL]) <;> simp only [mNumL, mNumE, mNumA, mNumB, mNumC, c_23, if_pos c_33, if_neg c_67, if_pos c_81, if_neg c_94, fStop, if_true, if_false, Bool.false_eq_true, ↓reduceIte]); done) | (rw [hF]; ((try simp only [mNumL]) <;> simp only [mNumL, mNumE, mNumA, mNumB, mNumC, c_23, if_pos c_33, if_neg c_67, if_pos c_81, if_neg c_94, fStop, if_true, if_false, Bool.false_eq_true, ↓reduceIte]); with_reducible rfl))) d_Mod_number_102
                · skip
                  have c_81 : ¬ (v ≤ x) := c_81
                  refine lv_aload_n hx hb d_Mod_number_84 rfl (lv_at hl 2 rfl) ?_
                  refine lv_iload_n hx hb d_Mod_number_85 rfl (lv_at hl 1 rfl) ?_
                  refine hx_Vz (wr := []) (As := [.int (gR st 3)]) (rest := []) hI (c_Mod_wrong s1 hv (gR st 3)) (cw_V (C := "HeadDeskModel") 1 hts m_3_124 m_3_126 ms_29 m_1_5 m_3_127 (by decide +kernel) ⟨by decide, by decide⟩) hX hA hP hD hS [0, 1, 2, 3, 4, 5, 6] [] rfl rfl (by decide) (by decide) (by decide) (va_recv hX.1 hP (ci := 4) (q0 := 0) rfl rfl) rfl hl.1 rfl (Nat.le_of_ble_eq_true rfl) d_Mod_number_86 ⟨Nat.zero_le _, Nat.zero_le _⟩ (fun H locs hP hD hS => ?_)
                  obtain ⟨s_86, e_86⟩ : ∃ z : MS, z = mWr s1 (gR st 3) := ⟨_, rfl⟩
                  have i_86 : mInv s_86 := by rw [e_86]; exact inv_wr hv
                  have hP : va_P D vwCl (mdW bd ce s_86) H := by rw [e_86]; exact hP
                  have hD : va_D A (mdW bd ce s_86) := by rw [e_86]; exact hD
                  refine lv_pop hx hb d_Mod_number_89 rfl ?_
                  refine lv_aload_n hx hb d_Mod_number_90 rfl (lv_at hl 2 rfl) ?_
                  refine va_get (D := D) (ci := 4) (v := .int (gR s_86 4)) (C := "HeadDeskModel") (T := F_Mod) (N := 38) hx hb hts a_Mod hown hX.1 hP 0 rfl rfl 5 (by decide) (hts _ m_2_222) (fun _ h9 => h9) rfl d_Mod_number_91 ?_
                  refine lv_if_eq (tgt := 101) hx hb d_Mod_number_94 (by decide) (fun c_94 => ?_) (fun c_94 => ?_)
                  · skip
                    have c_94 : (gR s_86 4 = 0) := c_94
                    refine lv_iload_n hx hb d_Mod_number_101 rfl (lv_at hl 0 rfl) ?_
                    exact hret H locs s_86 v _ _ hP hD hS (pr2 (by first | (rw [hF]; ((try simp only [mNumL]) <;> simp only [mNumL, mNumE, mNumA, mNumB, mNumC, c_23, if_pos c_33, if_neg c_67, if_neg c_81, if_pos c_94, ← e_86, fStop, if_true, if_false, Bool.false_eq_true, ↓reduceIte]); done) | (rw [hF]; ((try simp only [mNumL]) <;> simp only [mNumL, mNumE, mNumA, mNumB, mNumC, c_23, if_pos c_33, if_neg c_67, if_neg c_81, if_pos c_94, ← e_86, fStop, if_true, if_false, Bool.false_eq_true, ↓reduceIte]); with_reducible rfl) | (rw [hF]; ((try simp only [mNumL]) <;> simp only [mNumL, mNumE, mNumA, mNumB, mNumC, c_23, if_pos c_33, if_neg c_67, if_neg c_81, if_pos c_94, ← e_86, fStop, if_true, if_false, Bool.false_eq_true, ↓reduceIte]); rw [e_86]))) d_Mod_number_102
                  · skip
                    have c_94 : ¬ (gR s_86 4 = 0) := c_94
                    refine lv_iconst (v := (-1)) hx hb d_Mod_number_97 (by decide) ?_
                    refine lv_goto (tgt := 102) hx hb d_Mod_number_98 (by decide) ?_
                    exact hret H locs s_86 (-1) _ _ hP hD hS (pr2 (by first | (rw [hF]; ((try simp only [mNumL]) <;> simp only [mNumL, mNumE, mNumA, mNumB, mNumC, c_23, if_pos c_33, if_neg c_67, if_neg c_81, if_neg c_94, ← e_86, fStop, if_true, if_false, Bool.false_eq_true, ↓reduceIte]); done) | (rw [hF]; ((try simp only [mNumL]) <;> simp only [mNumL, mNumE, mNumA, mNumB, mNumC, c_23, if_pos c_33, if_neg c_67, if_neg c_81, if_neg c_94, ← e_86, fStop, if_true, if_false, Bool.false_eq_true, ↓reduceIte]); with_reducible rfl) | (rw [hF]; ((try simp only [mNumL]) <;> simp only [mNumL, mNumE, mNumA, mNumB, mNumC, c_23, if_pos c_33, if_neg c_67, if_neg c_81, if_neg c_94, ← e_86, fStop, if_true, if_false, Bool.false_eq_true, ↓reduceIte]); rw [e_86]))) d_Mod_number_102
              · skip
                have c_67 : (gR s1 3 = gR st 3) := c_67
                refine lv_aload_n hx hb d_Mod_number_70 rfl (lv_at hl 2 rfl) ?_
                refine lv_aload_n hx hb d_Mod_number_71 rfl (lv_at hl 2 rfl) ?_
                refine va_get (D := D) (ci := 4) (v := .int (gR s1 3)) (C := "HeadDeskModel") (T := F_Mod) (N := 38) hx hb hts a_Mod hown hX.1 hP 0 rfl rfl 4 (by decide) (hts _ m_2_221) (fun _ h9 => h9) rfl d_Mod_number_72 ?_
                refine hx_Vz (wr := []) (As := [.int (gR s1 3)]) (rest := []) hI (c_Mod_wrong s1 hv (gR s1 3)) (cw_V (C := "HeadDeskModel") 1 hts m_3_124 m_3_126 ms_29 m_1_5 m_3_127 (by decide +kernel) ⟨by decide, by decide⟩) hX hA hP hD hS [0, 1, 2, 3, 4, 5, 6] [] rfl rfl (by decide) (by decide) (by decide) (va_recv hX.1 hP (ci := 4) (q0 := 0) rfl rfl) rfl hl.1 rfl (Nat.le_of_ble_eq_true rfl) d_Mod_number_75 ⟨Nat.zero_le _, Nat.zero_le _⟩ (fun H locs hP hD hS => ?_)
                obtain ⟨s_75, e_75⟩ : ∃ z : MS, z = mWr s1 (gR s1 3) := ⟨_, rfl⟩
                have i_75 : mInv s_75 := by rw [e_75]; exact inv_wr hv
                have hP : va_P D vwCl (mdW bd ce s_75) H := by rw [e_75]; exact hP
                have hD : va_D A (mdW bd ce s_75) := by rw [e_75]; exact hD
                refine lv_pop hx hb d_Mod_number_78 rfl ?_
                refine lv_iload_n hx hb d_Mod_number_79 rfl (lv_at hl 0 rfl) ?_
                refine lv_iload_n hx hb d_Mod_number_80 rfl (lv_at hl 3 rfl) ?_
                refine lv_icmp_le (tgt := 90) hx hb d_Mod_number_81 (by decide) (fun c_81 => ?_) (fun c_81 => ?_)
                · skip
                  have c_81 : (v ≤ x) := c_81
                  refine lv_aload_n hx hb d_Mod_number_90 rfl (lv_at hl 2 rfl) ?_
                  refine va_get (D := D) (ci := 4) (v := .int (gR s_75 4)) (C := "HeadDeskModel") (T := F_Mod) (N := 38) hx hb hts a_Mod hown hX.1 hP 0 rfl rfl 5 (by decide) (hts _ m_2_222) (fun _ h9 => h9) rfl d_Mod_number_91 ?_
                  refine lv_if_eq (tgt := 101) hx hb d_Mod_number_94 (by decide) (fun c_94 => ?_) (fun c_94 => ?_)
                  · skip
                    have c_94 : (gR s_75 4 = 0) := c_94
                    refine lv_iload_n hx hb d_Mod_number_101 rfl (lv_at hl 0 rfl) ?_
                    exact hret H locs s_75 v _ _ hP hD hS (pr2 (by first | (rw [hF]; ((try simp only [mNumL]) <;> simp only [mNumL, mNumE, mNumA, mNumB, mNumC, c_23, if_pos c_33, if_pos c_67, if_pos c_81, if_pos c_94, ← e_75, fStop, if_true, if_false, Bool.false_eq_true, ↓reduceIte]); done) | (rw [hF]; ((try simp only [mNumL]) <;> simp only [mNumL, mNumE, mNumA, mNumB, mNumC, c_23, if_pos c_33, if_pos c_67, if_pos c_81, if_pos c_94, ← e_75, fStop, if_true, if_false, Bool.false_eq_true, ↓reduceIte]); with_reducible rfl) | (rw [hF]; ((try simp only [mNumL]) <;> simp only [mNumL, mNumE, mNumA, mNumB, mNumC, c_23, if_pos c_33, if_pos c_67, if_pos c_81, if_pos c_94, ← e_75, fStop, if_true, if_false, Bool.false_eq_true, ↓reduceIte]); rw [e_75]))) d_Mod_number_102
                  · skip
                    have c_94 : ¬ (gR s_75 4 = 0) := c_94
                    refine lv_iconst (v := (-1)) hx hb d_Mod_number_97 (by decide) ?_
                    refine lv_goto (tgt := 102) hx hb d_Mod_number_98 (by decide) ?_
                    exact hret H locs s_75 (-1) _ _ hP hD hS (pr2 (by first | (rw [hF]; ((try simp only [mNumL]) <;> simp only [mNumL, mNumE, mNumA, mNumB, mNumC, c_23, if_pos c_33, if_pos c_67, if_pos c_81, if_neg c_94, ← e_75, fStop, if_true, if_false, Bool.false_eq_true, ↓reduceIte]); done) | (rw [hF]; ((try simp only [mNumL]) <;> simp only [mNumL, mNumE, mNumA, mNumB, mNumC, c_23, if_pos c_33, if_pos c_67, if_pos c_81, if_neg c_94, ← e_75, fStop, if_true, if_false, Bool.false_eq_true, ↓reduceIte]); with_reducible rfl) | (rw [hF]; ((try simp only [mNumL]) <;> simp only [mNumL, mNumE, mNumA, mNumB, mNumC, c_23, if_pos c_33, if_pos c_67, if_pos c_81, if_neg c_94, ← e_75, fStop, if_true, if_false, Bool.false_eq_true, ↓reduceIte]); rw [e_75]))) d_Mod_number_102
                · skip
                  have c_81 : ¬ (v ≤ x) := c_81
                  refine lv_aload_n hx hb d_Mod_number_84 rfl (lv_at hl 2 rfl) ?_
                  refine lv_iload_n hx hb d_Mod_number_85 rfl (lv_at hl 1 rfl) ?_
                  refine hx_Vz (wr := []) (As := [.int (gR st 3)]) (rest := []) hI (c_Mod_wrong s_75 i_75 (gR st 3)) (cw_V (C := "HeadDeskModel") 1 hts m_3_124 m_3_126 ms_29 m_1_5 m_3_127 (by decide +kernel) ⟨by decide, by decide⟩) hX hA hP hD hS [0, 1, 2, 3, 4, 5, 6] [] rfl rfl (by decide) (by decide) (by decide) (va_recv hX.1 hP (ci := 4) (q0 := 0) rfl rfl) rfl hl.1 rfl (Nat.le_of_ble_eq_true rfl) d_Mod_number_86 ⟨Nat.zero_le _, Nat.zero_le _⟩ (fun H locs hP hD hS => ?_)
                  obtain ⟨s_86, e_86⟩ : ∃ z : MS, z = mWr s_75 (gR st 3) := ⟨_, rfl⟩
                  have i_86 : mInv s_86 := by rw [e_86]; exact inv_wr i_75
                  have hP : va_P D vwCl (mdW bd ce s_86) H := by rw [e_86]; exact hP
                  have hD : va_D A (mdW bd ce s_86) := by rw [e_86]; exact hD
                  refine lv_pop hx hb d_Mod_number_89 rfl ?_
                  refine lv_aload_n hx hb d_Mod_number_90 rfl (lv_at hl 2 rfl) ?_
                  refine va_get (D := D) (ci := 4) (v := .int (gR s_86 4)) (C := "HeadDeskModel") (T := F_Mod) (N := 38) hx hb hts a_Mod hown hX.1 hP 0 rfl rfl 5 (by decide) (hts _ m_2_222) (fun _ h9 => h9) rfl d_Mod_number_91 ?_
                  refine lv_if_eq (tgt := 101) hx hb d_Mod_number_94 (by decide) (fun c_94 => ?_) (fun c_94 => ?_)
                  · skip
                    have c_94 : (gR s_86 4 = 0) := c_94
                    refine lv_iload_n hx hb d_Mod_number_101 rfl (lv_at hl 0 rfl) ?_
                    exact hret H locs s_86 v _ _ hP hD hS (pr2 (by first | (rw [hF]; ((try simp only [mNumL]) <;> simp only [mNumL, mNumE, mNumA, mNumB, mNumC, c_23, if_pos c_33, if_pos c_67, if_neg c_81, if_pos c_94, ← e_75, ← e_86, fStop, if_true, if_false, Bool.false_eq_true, ↓reduceIte]); done) | (rw [hF]; ((try simp only [mNumL]) <;> simp only [mNumL, mNumE, mNumA, mNumB, mNumC, c_23, if_pos c_33, if_pos c_67, if_neg c_81, if_pos c_94, ← e_75, ← e_86, fStop, if_true, if_false, Bool.false_eq_true, ↓reduceIte]); with_reducible rfl) | (rw [hF]; ((try simp only [mNumL]) <;> simp only [mNumL, mNumE, mNumA, mNumB, mNumC, c_23, if_pos c_33, if_pos c_67, if_neg c_81, if_pos c_94, ← e_75, ← e_86, fStop, if_true, if_false, Bool.false_eq_true, ↓reduceIte]); rw [e_86]))) d_Mod_number_102
                  · skip
                    have c_94 : ¬ (gR s_86 4 = 0) := c_94
                    refine lv_iconst (v := (-1)) hx hb d_Mod_number_97 (by decide) ?_
                    refine lv_goto (tgt := 102) hx hb d_Mod_number_98 (by decide) ?_
                    exact hret H locs s_86 (-1) _ _ hP hD hS (pr2 (by first | (rw [hF]; ((try simp only [mNumL]) <;> simp only [mNumL, mNumE, mNumA, mNumB, mNumC, c_23, if_pos c_33, if_pos c_67, if_neg c_81, if_neg c_94, ← e_75, ← e_86, fStop, if_true, if_false, Bool.false_eq_true, ↓reduceIte]); done) | (rw [hF]; ((try simp only [mNumL]) <;> simp only [mNumL, mNumE, mNumA, mNumB, mNumC, c_23, if_pos c_33, if_pos c_67, if_neg c_81, if_neg c_94, ← e_75, ← e_86, fStop, if_true, if_false, Bool.false_eq_true, ↓reduceIte]); with_reducible rfl) | (rw [hF]; ((try simp only [mNumL]) <;> simp only [mNumL, mNumE, mNumA, mNumB, mNumC, c_23, if_pos c_33, if_pos c_67, if_neg c_81, if_neg c_94, ← e_75, ← e_86, fStop, if_true, if_false, Bool.false_eq_true, ↓reduceIte]); rw [e_86]))) d_Mod_number_102
            · skip
              exact absurd (nm_d0 (by omega)) c_33
        | succ k ih =>
          intro v s1 H locs ls hk hj hv hF hP hD hS hl
          refine lv_aload_n hx hb d_Mod_number_16 rfl (lv_at hl 2 rfl) ?_
          refine hx_Vi (wr := []) (As := []) (rest := []) hI (c_Mod_see s1 hv ) (cw_V (C := "HeadDeskModel") 0 hts m_3_109 m_3_111 ms_26 m_1_5 m_3_112 (by decide +kernel) ⟨by decide, by decide⟩) hX hA hP hD hS [0, 1, 2, 3, 4, 5, 6] [] rfl rfl (by decide) (by decide) (by decide) (va_recv hX.1 hP (ci := 4) (q0 := 0) rfl rfl) rfl hl.1 rfl (Nat.le_of_ble_eq_true rfl) d_Mod_number_17 ⟨Nat.zero_le _, Nat.zero_le _⟩ (fun H locs hP hD hS => ?_)
          have hP : va_P D vwCl (mdW bd ce s1) H := hP
          have hD : va_D A (mdW bd ce s1) := hD
          refine hx_Sz (wr := [(bd 0, .inr (4, [.int (gR s1 0), .ref (bd 1), .int (gR s1 1), .int (gR s1 2), .int (gR s1 3), .int (gR s1 4), .int (gR s1 5), .int (gR s1 6), .int (gR s1 7), .int (gR s1 8), .int (gR s1 9), .int (gR s1 10), .int (gR s1 11), .int (gR s1 12), .int (gR s1 13), .int (gR s1 14), .int (gR s1 15), .int (gR s1 16), .int (gR s1 17), .int (gR s1 18), .ref (bd 2), .int (gR s1 19), .int (gR s1 20), .int (gR s1 21), .int (gR s1 22), .int (gR s1 23), .int (gR s1 24), .int (gR s1 25), .int (gR s1 26), .ref (bd 3), .ref (bd 4), .ref (bd 5), .ref (bd 6), .int (gR s1 27), .int (gR s1 28), .int (gR s1 29), .int (gR s1 30), .int (gR s1 31)])), (bd 1, .inl (ce 0, 300, .inl (gTp s1))), (bd 2, .inl (ce 1, 8, .inl (gMt s1))), (bd 3, .inl (ce 2, 150, .inl (gNf s1))), (bd 4, .inl (ce 3, 150, .inl (gNt s1))), (bd 5, .inl (ce 4, 18, .inl (gKp s1))), (bd 6, .inl (ce 5, 8, .inl (gKm s1)))]) (As := [.int (mSee s1)]) (rest := []) hI (c_Mod_isDigit (mSee s1)) (cw_S 1 hts m_3_138 m_3_139 m_1_5 m_3_140 (by decide +kernel) ⟨by decide, by decide⟩) hX hA hP hD hS [] [0, 1, 2, 3, 4, 5, 6] rfl rfl (by decide) (by decide) (by decide) rfl hl.1 rfl (Nat.le_of_ble_eq_true rfl) d_Mod_number_20 ⟨Nat.zero_le _, Nat.zero_le _⟩ (fun H locs hP hD hS => ?_)
          have hP : va_P D vwCl (mdW bd ce s1) H := hP.sub [0, 1, 2, 3, 4, 5, 6] rfl
          have hD : va_D A (mdW bd ce s1) := hD.sub [0, 1, 2, 3, 4, 5, 6] (by decide) rfl
          refine lv_if_eq (tgt := 62) hx hb d_Mod_number_23 (by decide) (fun c_23 => ?_) (fun c_23 => ?_)
          · skip
            have c_23 : (isD (mSee s1)) = false := bI_0 c_23
            refine lv_aload_n hx hb d_Mod_number_62 rfl (lv_at hl 2 rfl) ?_
            refine va_get (D := D) (ci := 4) (v := .int (gR s1 3)) (C := "HeadDeskModel") (T := F_Mod) (N := 38) hx hb hts a_Mod hown hX.1 hP 0 rfl rfl 4 (by decide) (hts _ m_2_221) (fun _ h9 => h9) rfl d_Mod_number_63 ?_
            refine lv_iload_n hx hb d_Mod_number_66 rfl (lv_at hl 1 rfl) ?_
            refine lv_icmp_ne (tgt := 79) hx hb d_Mod_number_67 (by decide) (fun c_67 => ?_) (fun c_67 => ?_)
            · skip
              have c_67 : ¬ (gR s1 3 = gR st 3) := c_67
              refine lv_iload_n hx hb d_Mod_number_79 rfl (lv_at hl 0 rfl) ?_
              refine lv_iload_n hx hb d_Mod_number_80 rfl (lv_at hl 3 rfl) ?_
              refine lv_icmp_le (tgt := 90) hx hb d_Mod_number_81 (by decide) (fun c_81 => ?_) (fun c_81 => ?_)
              · skip
                have c_81 : (v ≤ x) := c_81
                refine lv_aload_n hx hb d_Mod_number_90 rfl (lv_at hl 2 rfl) ?_
                refine va_get (D := D) (ci := 4) (v := .int (gR s1 4)) (C := "HeadDeskModel") (T := F_Mod) (N := 38) hx hb hts a_Mod hown hX.1 hP 0 rfl rfl 5 (by decide) (hts _ m_2_222) (fun _ h9 => h9) rfl d_Mod_number_91 ?_
                refine lv_if_eq (tgt := 101) hx hb d_Mod_number_94 (by decide) (fun c_94 => ?_) (fun c_94 => ?_)
                · skip
                  have c_94 : (gR s1 4 = 0) := c_94
                  refine lv_iload_n hx hb d_Mod_number_101 rfl (lv_at hl 0 rfl) ?_
                  exact hret H locs s1 v _ _ hP hD hS (pr2 (by first | (rw [hF]; ((try simp only [mNumL]) <;> simp only [mNumL, mNumE, mNumA, mNumB, mNumC, c_23, if_neg c_67, if_pos c_81, if_pos c_94, fStop, if_true, if_false, Bool.false_eq_true, ↓reduceIte]); done) | (rw [hF]; ((try simp only [mNumL]) <;> simp only [mNumL, mNumE, mNumA, mNumB, mNumC, c_23, if_neg c_67, if_pos c_81, if_pos c_94, fStop, if_true, if_false, Bool.false_eq_true, ↓reduceIte]); with_reducible rfl))) d_Mod_number_102
                · skip
                  have c_94 : ¬ (gR s1 4 = 0) := c_94
                  refine lv_iconst (v := (-1)) hx hb d_Mod_number_97 (by decide) ?_
                  refine lv_goto (tgt := 102) hx hb d_Mod_number_98 (by decide) ?_
                  exact hret H locs s1 (-1) _ _ hP hD hS (pr2 (by first | (rw [hF]; ((try simp only [mNumL]) <;> simp only [mNumL, mNumE, mNumA, mNumB, mNumC, c_23, if_neg c_67, if_pos c_81, if_neg c_94, fStop, if_true, if_false, Bool.false_eq_true, ↓reduceIte]); done) | (rw [hF]; ((try simp only [mNumL]) <;> simp only [mNumL, mNumE, mNumA, mNumB, mNumC, c_23, if_neg c_67, if_pos c_81, if_neg c_94, fStop, if_true, if_false, Bool.false_eq_true, ↓reduceIte]); with_reducible rfl))) d_Mod_number_102
              · skip
                have c_81 : ¬ (v ≤ x) := c_81
                refine lv_aload_n hx hb d_Mod_number_84 rfl (lv_at hl 2 rfl) ?_
                refine lv_iload_n hx hb d_Mod_number_85 rfl (lv_at hl 1 rfl) ?_
                refine hx_Vz (wr := []) (As := [.int (gR st 3)]) (rest := []) hI (c_Mod_wrong s1 hv (gR st 3)) (cw_V (C := "HeadDeskModel") 1 hts m_3_124 m_3_126 ms_29 m_1_5 m_3_127 (by decide +kernel) ⟨by decide, by decide⟩) hX hA hP hD hS [0, 1, 2, 3, 4, 5, 6] [] rfl rfl (by decide) (by decide) (by decide) (va_recv hX.1 hP (ci := 4) (q0 := 0) rfl rfl) rfl hl.1 rfl (Nat.le_of_ble_eq_true rfl) d_Mod_number_86 ⟨Nat.zero_le _, Nat.zero_le _⟩ (fun H locs hP hD hS => ?_)
                obtain ⟨s_86, e_86⟩ : ∃ z : MS, z = mWr s1 (gR st 3) := ⟨_, rfl⟩
                have i_86 : mInv s_86 := by rw [e_86]; exact inv_wr hv
                have hP : va_P D vwCl (mdW bd ce s_86) H := by rw [e_86]; exact hP
                have hD : va_D A (mdW bd ce s_86) := by rw [e_86]; exact hD
                refine lv_pop hx hb d_Mod_number_89 rfl ?_
                refine lv_aload_n hx hb d_Mod_number_90 rfl (lv_at hl 2 rfl) ?_
                refine va_get (D := D) (ci := 4) (v := .int (gR s_86 4)) (C := "HeadDeskModel") (T := F_Mod) (N := 38) hx hb hts a_Mod hown hX.1 hP 0 rfl rfl 5 (by decide) (hts _ m_2_222) (fun _ h9 => h9) rfl d_Mod_number_91 ?_
                refine lv_if_eq (tgt := 101) hx hb d_Mod_number_94 (by decide) (fun c_94 => ?_) (fun c_94 => ?_)
                · skip
                  have c_94 : (gR s_86 4 = 0) := c_94
                  refine lv_iload_n hx hb d_Mod_number_101 rfl (lv_at hl 0 rfl) ?_
                  exact hret H locs s_86 v _ _ hP hD hS (pr2 (by first | (rw [hF]; ((try simp only [mNumL]) <;> simp only [mNumL, mNumE, mNumA, mNumB, mNumC, c_23, if_neg c_67, if_neg c_81, if_pos c_94, ← e_86, fStop, if_true, if_false, Bool.false_eq_true, ↓reduceIte]); done) | (rw [hF]; ((try simp only [mNumL]) <;> simp only [mNumL, mNumE, mNumA, mNumB, mNumC, c_23, if_neg c_67, if_neg c_81, if_pos c_94, ← e_86, fStop, if_true, if_false, Bool.false_eq_true, ↓reduceIte]); with_reducible rfl) | (rw [hF]; ((try simp only [mNumL]) <;> simp only [mNumL, mNumE, mNumA, mNumB, mNumC, c_23, if_neg c_67, if_neg c_81, if_pos c_94, ← e_86, fStop, if_true, if_false, Bool.false_eq_true, ↓reduceIte]); rw [e_86]))) d_Mod_number_102
                · skip
                  have c_94 : ¬ (gR s_86 4 = 0) := c_94
                  refine lv_iconst (v := (-1)) hx hb d_Mod_number_97 (by decide) ?_
                  refine lv_goto (tgt := 102) hx hb d_Mod_number_98 (by decide) ?_
                  exact hret H locs s_86 (-1) _ _ hP hD hS (pr2 (by first | (rw [hF]; ((try simp only [mNumL]) <;> simp only [mNumL, mNumE, mNumA, mNumB, mNumC, c_23, if_neg c_67, if_neg c_81, if_neg c_94, ← e_86, fStop, if_true, if_false, Bool.false_eq_true, ↓reduceIte]); done) | (rw [hF]; ((try simp only [mNumL]) <;> simp only [mNumL, mNumE, mNumA, mNumB, mNumC, c_23, if_neg c_67, if_neg c_81, if_neg c_94, ← e_86, fStop, if_true, if_false, Bool.false_eq_true, ↓reduceIte]); with_reducible rfl) | (rw [hF]; ((try simp only [mNumL]) <;> simp only [mNumL, mNumE, mNumA, mNumB, mNumC, c_23, if_neg c_67, if_neg c_81, if_neg c_94, ← e_86, fStop, if_true, if_false, Bool.false_eq_true, ↓reduceIte]); rw [e_86]))) d_Mod_number_102
            · skip
              have c_67 : (gR s1 3 = gR st 3) := c_67
              refine lv_aload_n hx hb d_Mod_number_70 rfl (lv_at hl 2 rfl) ?_
              refine lv_aload_n hx hb d_Mod_number_71 rfl (lv_at hl 2 rfl) ?_
              refine va_get (D := D) (ci := 4) (v := .int (gR s1 3)) (C := "HeadDeskModel") (T := F_Mod) (N := 38) hx hb hts a_Mod hown hX.1 hP 0 rfl rfl 4 (by decide) (hts _ m_2_221) (fun _ h9 => h9) rfl d_Mod_number_72 ?_
              refine hx_Vz (wr := []) (As := [.int (gR s1 3)]) (rest := []) hI (c_Mod_wrong s1 hv (gR s1 3)) (cw_V (C := "HeadDeskModel") 1 hts m_3_124 m_3_126 ms_29 m_1_5 m_3_127 (by decide +kernel) ⟨by decide, by decide⟩) hX hA hP hD hS [0, 1, 2, 3, 4, 5, 6] [] rfl rfl (by decide) (by decide) (by decide) (va_recv hX.1 hP (ci := 4) (q0 := 0) rfl rfl) rfl hl.1 rfl (Nat.le_of_ble_eq_true rfl) d_Mod_number_75 ⟨Nat.zero_le _, Nat.zero_le _⟩ (fun H locs hP hD hS => ?_)
              obtain ⟨s_75, e_75⟩ : ∃ z : MS, z = mWr s1 (gR s1 3) := ⟨_, rfl⟩
              have i_75 : mInv s_75 := by rw [e_75]; exact inv_wr hv
              have hP : va_P D vwCl (mdW bd ce s_75) H := by rw [e_75]; exact hP
              have hD : va_D A (mdW bd ce s_75) := by rw [e_75]; exact hD
              refine lv_pop hx hb d_Mod_number_78 rfl ?_
              refine lv_iload_n hx hb d_Mod_number_79 rfl (lv_at hl 0 rfl) ?_
              refine lv_iload_n hx hb d_Mod_number_80 rfl (lv_at hl 3 rfl) ?_
              refine lv_icmp_le (tgt := 90) hx hb d_Mod_number_81 (by decide) (fun c_81 => ?_) (fun c_81 => ?_)
              · skip
                have c_81 : (v ≤ x) := c_81
                refine lv_aload_n hx hb d_Mod_number_90 rfl (lv_at hl 2 rfl) ?_
                refine va_get (D := D) (ci := 4) (v := .int (gR s_75 4)) (C := "HeadDeskModel") (T := F_Mod) (N := 38) hx hb hts a_Mod hown hX.1 hP 0 rfl rfl 5 (by decide) (hts _ m_2_222) (fun _ h9 => h9) rfl d_Mod_number_91 ?_
                refine lv_if_eq (tgt := 101) hx hb d_Mod_number_94 (by decide) (fun c_94 => ?_) (fun c_94 => ?_)
                · skip
                  have c_94 : (gR s_75 4 = 0) := c_94
                  refine lv_iload_n hx hb d_Mod_number_101 rfl (lv_at hl 0 rfl) ?_
                  exact hret H locs s_75 v _ _ hP hD hS (pr2 (by first | (rw [hF]; ((try simp only [mNumL]) <;> simp only [mNumL, mNumE, mNumA, mNumB, mNumC, c_23, if_pos c_67, if_pos c_81, if_pos c_94, ← e_75, fStop, if_true, if_false, Bool.false_eq_true, ↓reduceIte]); done) | (rw [hF]; ((try simp only [mNumL]) <;> simp only [mNumL, mNumE, mNumA, mNumB, mNumC, c_23, if_pos c_67, if_pos c_81, if_pos c_94, ← e_75, fStop, if_true, if_false, Bool.false_eq_true, ↓reduceIte]); with_reducible rfl) | (rw [hF]; ((try simp only [mNumL]) <;> simp only [mNumL, mNumE, mNumA, mNumB, mNumC, c_23, if_pos c_67, if_pos c_81, if_pos c_94, ← e_75, fStop, if_true, if_false, Bool.false_eq_true, ↓reduceIte]); rw [e_75]))) d_Mod_number_102
                · skip
                  have c_94 : ¬ (gR s_75 4 = 0) := c_94
                  refine lv_iconst (v := (-1)) hx hb d_Mod_number_97 (by decide) ?_
                  refine lv_goto (tgt := 102) hx hb d_Mod_number_98 (by decide) ?_
                  exact hret H locs s_75 (-1) _ _ hP hD hS (pr2 (by first | (rw [hF]; ((try simp only [mNumL]) <;> simp only [mNumL, mNumE, mNumA, mNumB, mNumC, c_23, if_pos c_67, if_pos c_81, if_neg c_94, ← e_75, fStop, if_true, if_false, Bool.false_eq_true, ↓reduceIte]); done) | (rw [hF]; ((try simp only [mNumL]) <;> simp only [mNumL, mNumE, mNumA, mNumB, mNumC, c_23, if_pos c_67, if_pos c_81, if_neg c_94, ← e_75, fStop, if_true, if_false, Bool.false_eq_true, ↓reduceIte]); with_reducible rfl) | (rw [hF]; ((try simp only [mNumL]) <;> simp only [mNumL, mNumE, mNumA, mNumB, mNumC, c_23, if_pos c_67, if_pos c_81, if_neg c_94, ← e_75, fStop, if_true, if_false, Bool.false_eq_true, ↓reduceIte]); rw [e_75]))) d_Mod_number_102
              · skip
                have c_81 : ¬ (v ≤ x) := c_81
                refine lv_aload_n hx hb d_Mod_number_84 rfl (lv_at hl 2 rfl) ?_
                refine lv_iload_n hx hb d_Mod_number_85 rfl (lv_at hl 1 rfl) ?_
                refine hx_Vz (wr := []) (As := [.int (gR st 3)]) (rest := []) hI (c_Mod_wrong s_75 i_75 (gR st 3)) (cw_V (C := "HeadDeskModel") 1 hts m_3_124 m_3_126 ms_29 m_1_5 m_3_127 (by decide +kernel) ⟨by decide, by decide⟩) hX hA hP hD hS [0, 1, 2, 3, 4, 5, 6] [] rfl rfl (by decide) (by decide) (by decide) (va_recv hX.1 hP (ci := 4) (q0 := 0) rfl rfl) rfl hl.1 rfl (Nat.le_of_ble_eq_true rfl) d_Mod_number_86 ⟨Nat.zero_le _, Nat.zero_le _⟩ (fun H locs hP hD hS => ?_)
                obtain ⟨s_86, e_86⟩ : ∃ z : MS, z = mWr s_75 (gR st 3) := ⟨_, rfl⟩
                have i_86 : mInv s_86 := by rw [e_86]; exact inv_wr i_75
                have hP : va_P D vwCl (mdW bd ce s_86) H := by rw [e_86]; exact hP
                have hD : va_D A (mdW bd ce s_86) := by rw [e_86]; exact hD
                refine lv_pop hx hb d_Mod_number_89 rfl ?_
                refine lv_aload_n hx hb d_Mod_number_90 rfl (lv_at hl 2 rfl) ?_
                refine va_get (D := D) (ci := 4) (v := .int (gR s_86 4)) (C := "HeadDeskModel") (T := F_Mod) (N := 38) hx hb hts a_Mod hown hX.1 hP 0 rfl rfl 5 (by decide) (hts _ m_2_222) (fun _ h9 => h9) rfl d_Mod_number_91 ?_
                refine lv_if_eq (tgt := 101) hx hb d_Mod_number_94 (by decide) (fun c_94 => ?_) (fun c_94 => ?_)
                · skip
                  have c_94 : (gR s_86 4 = 0) := c_94
                  refine lv_iload_n hx hb d_Mod_number_101 rfl (lv_at hl 0 rfl) ?_
                  exact hret H locs s_86 v _ _ hP hD hS (pr2 (by first | (rw [hF]; ((try simp only [mNumL]) <;> simp only [mNumL, mNumE, mNumA, mNumB, mNumC, c_23, if_pos c_67, if_neg c_81, if_pos c_94, ← e_75, ← e_86, fStop, if_true, if_false, Bool.false_eq_true, ↓reduceIte]); done) | (rw [hF]; ((try simp only [mNumL]) <;> simp only [mNumL, mNumE, mNumA, mNumB, mNumC, c_23, if_pos c_67, if_neg c_81, if_pos c_94, ← e_75, ← e_86, fStop, if_true, if_false, Bool.false_eq_true, ↓reduceIte]); with_reducible rfl) | (rw [hF]; ((try simp only [mNumL]) <;> simp only [mNumL, mNumE, mNumA, mNumB, mNumC, c_23, if_pos c_67, if_neg c_81, if_pos c_94, ← e_75, ← e_86, fStop, if_true, if_false, Bool.false_eq_true, ↓reduceIte]); rw [e_86]))) d_Mod_number_102
                · skip
                  have c_94 : ¬ (gR s_86 4 = 0) := c_94
                  refine lv_iconst (v := (-1)) hx hb d_Mod_number_97 (by decide) ?_
                  refine lv_goto (tgt := 102) hx hb d_Mod_number_98 (by decide) ?_
                  exact hret H locs s_86 (-1) _ _ hP hD hS (pr2 (by first | (rw [hF]; ((try simp only [mNumL]) <;> simp only [mNumL, mNumE, mNumA, mNumB, mNumC, c_23, if_pos c_67, if_neg c_81, if_neg c_94, ← e_75, ← e_86, fStop, if_true, if_false, Bool.false_eq_true, ↓reduceIte]); done) | (rw [hF]; ((try simp only [mNumL]) <;> simp only [mNumL, mNumE, mNumA, mNumB, mNumC, c_23, if_pos c_67, if_neg c_81, if_neg c_94, ← e_75, ← e_86, fStop, if_true, if_false, Bool.false_eq_true, ↓reduceIte]); with_reducible rfl) | (rw [hF]; ((try simp only [mNumL]) <;> simp only [mNumL, mNumE, mNumA, mNumB, mNumC, c_23, if_pos c_67, if_neg c_81, if_neg c_94, ← e_75, ← e_86, fStop, if_true, if_false, Bool.false_eq_true, ↓reduceIte]); rw [e_86]))) d_Mod_number_102
          · skip
            have c_23 : (isD (mSee s1)) = true := bI_1 c_23
            refine lv_aload_n hx hb d_Mod_number_26 rfl (lv_at hl 2 rfl) ?_
            refine va_get (D := D) (ci := 4) (v := .int (gR s1 3)) (C := "HeadDeskModel") (T := F_Mod) (N := 38) hx hb hts a_Mod hown hX.1 hP 0 rfl rfl 4 (by decide) (hts _ m_2_221) (fun _ h9 => h9) rfl d_Mod_number_27 ?_
            refine lv_iload_n hx hb d_Mod_number_30 rfl (lv_at hl 1 rfl) ?_
            refine lv_isub hx hb d_Mod_number_31 ?_
            refine lv_iconst (v := 5) hx hb d_Mod_number_32 (by decide) ?_
            refine lv_icmp_ge (tgt := 62) hx hb d_Mod_number_33 (by decide) (fun c_33 => ?_) (fun c_33 => ?_)
            · skip
              exact absurd c_33 (nm_d1 hj (by omega))
            · skip
              have c_33 : ¬ (5 ≤ (gR s1 3) - (gR st 3)) := c_33
              refine lv_bipush (v := 10) hx hb d_Mod_number_36 (by decide) ?_
              refine lv_iload_n hx hb d_Mod_number_38 rfl (lv_at hl 0 rfl) ?_
              refine lv_imul hx hb d_Mod_number_39 ?_
              refine lv_aload_n hx hb d_Mod_number_40 rfl (lv_at hl 2 rfl) ?_
              refine hx_Vi (wr := []) (As := []) (rest := [.int (10 * v)]) hI (c_Mod_see s1 hv ) (cw_V (C := "HeadDeskModel") 0 hts m_3_109 m_3_111 ms_26 m_1_5 m_3_112 (by decide +kernel) ⟨by decide, by decide⟩) hX hA hP hD hS [0, 1, 2, 3, 4, 5, 6] [] rfl rfl (by decide) (by decide) (by decide) (va_recv hX.1 hP (ci := 4) (q0 := 0) rfl rfl) rfl hl.1 rfl (Nat.le_of_ble_eq_true rfl) d_Mod_number_41 ⟨Nat.zero_le _, Nat.zero_le _⟩ (fun H locs hP hD hS => ?_)
              have hP : va_P D vwCl (mdW bd ce s1) H := hP
              have hD : va_D A (mdW bd ce s1) := hD
              refine lv_iadd hx hb d_Mod_number_44 ?_
              refine lv_bipush (v := 48) hx hb d_Mod_number_45 (by decide) ?_
              refine lv_isub hx hb d_Mod_number_47 ?_
              refine lv_istore_n (lv' := [(3, .int (((10 * v) + (mSee s1)) - 48)), (2, .int (gR st 3)), (0, .ref (bd 0)), (1, .int x)]) hx hb d_Mod_number_48 rfl hl (by decide) rfl (fun ls hl => ?_)
              refine lv_aload_n hx hb d_Mod_number_49 rfl (lv_at hl 2 rfl) ?_
              refine lv_dup hx hb d_Mod_number_50 rfl ?_
              refine va_get (D := D) (ci := 4) (v := .int (gR s1 3)) (C := "HeadDeskModel") (T := F_Mod) (N := 38) hx hb hts a_Mod hown hX.1 hP 0 rfl rfl 4 (by decide) (hts _ m_2_221) (fun _ h9 => h9) rfl d_Mod_number_51 ?_
              refine lv_iconst (v := 1) hx hb d_Mod_number_54 (by decide) ?_
              refine lv_iadd hx hb d_Mod_number_55 ?_
              refine va_put (D := D) (ci := 4) (v := .int ((gR s1 3) + 1)) (ty := .int) (C := "HeadDeskModel") (T := F_Mod) (N := 38) hx hb hts a_Mod t_Mod k_Mod n_Mod hown hX.1 hP hD hS 0 rfl rfl 4 (by decide) (hts _ m_2_221) (fun _ h9 => h9) rfl (by decide +kernel) rfl rfl (Nat.le_of_ble_eq_true rfl) d_Mod_number_56 (fun H locs hP hD hS => ?_)
              have hP : va_P D vwCl (mdW bd ce (wR s1 3 ((gR s1 3) + 1))) H := hP
              have hD : va_D A (mdW bd ce (wR s1 3 ((gR s1 3) + 1))) := hD
              have i_56 : mInv (wR s1 3 ((gR s1 3) + 1)) := inv_nx (s := s1) hv (see_lt rfl (isD_ne c_23))
              obtain ⟨s_56, e_56⟩ : ∃ z : MS, z = wR s1 3 ((gR s1 3) + 1) := ⟨_, rfl⟩
              have hP : va_P D vwCl (mdW bd ce s_56) H := by rw [e_56]; exact hP
              have hD : va_D A (mdW bd ce s_56) := by rw [e_56]; exact hD
              have i_56 : mInv s_56 := by rw [e_56]; exact i_56
              refine lv_goto (tgt := 16) hx hb d_Mod_number_59 (by decide) ?_
              exact ih (((10 * v) + (mSee s1)) - 48) s_56 H locs ls (by omega) (by rw [e_56]; exact nm_dn hv (see_lt rfl (isD_ne c_23)) hj) i_56 (by rw [hF, mNumL, if_pos c_23, mNx, ← e_56]) hP hD hS (lv_sub hl [0, 1, 2, 3] rfl)
      exact loop16 5 0 st H locs ls (by decide) (by rfl) hv (by simp only [mNum, if_pos c_4]) hP hD hS (lv_sub hl [0, 1, 2, 3] rfl)
    · skip
      have c_4 : ¬ (gR st 4 = 0) := c_4
      refine lv_iconst (v := (-1)) hx hb d_Mod_number_7 (by decide) ?_
      exact hret H locs st (-1) _ _ hP hD hS (pr2 (by first | (simp only [mNum, if_neg c_4, fStop, if_true, if_false, Bool.false_eq_true, ↓reduceIte]; done) | (simp only [mNum, if_neg c_4, fStop, if_true, if_false, Bool.false_eq_true, ↓reduceIte]; with_reducible rfl))) d_Mod_number_8
  rw [hH, hlo] at goal
  exact goal
set_option maxHeartbeats 4000000 in
set_option maxRecDepth 100000 in
theorem c_Mod_expectWord (st : MS) (hv : mInv st) {i : Nat} (hi : i < nJS) : hx_Mz l D (tyM ce) adK adV tF (mdW bd ce) y_Mod_expectWord w_Mod_expectWord (rmD 5) [.ref (bd 0), .ref (adK i)] st ((mWord (sw i) st).1) ((mWord (sw i) st).2) := by
  refine hx_Mz.of (cc := b_Mod_expectWord) (maxL := 3) (by decide) rfl (Nat.le_of_ble_eq_true rfl) ?_
  intro p e s m below meth c A Q ls hI hX hA hP hD hS hl hret
  obtain ⟨hx, hb, hml, hown, hts⟩ := id hI
  have hts : ∀ w ∈ aw, w.before ([.ref (bd 0), .ref (adK i)] : List Value).toArray s = true := fun w h => hts w (List.mem_cons_of_mem _ h)
  have hown : s.vm.findClass "HeadDeskModel" = some m.cls := hown
  have hI : hx_In p s m ([.ref (bd 0), .ref (adK i)] : List Value).toArray c b_Mod_expectWord 3 "HeadDeskModel" aw := ⟨hx, hb, hml, hown, hts⟩
  have hP : va_P D vwCl (mdW bd ce st) s.heap := hP
  obtain ⟨H, hH⟩ : ∃ H, H = s.heap := ⟨_, rfl⟩
  obtain ⟨locs, hlo⟩ : ∃ locs : List Loc, locs = [] := ⟨_, rfl⟩
  have hS : va_S A s.heap H locs := by rw [hH, hlo]; exact hS
  have hP : va_P D vwCl (mdW bd ce st) H := by rw [hH]; exact hP
  have hl : lv_has ls 3 [(0, .ref (bd 0)), (1, .ref (adK i))] := hl
  have goal : W p l e (rmD 5) s m ([.ref (bd 0), .ref (adK i)] : List Value).toArray below meth c H locs 0 0 Q (F0 m 0 ls []) := by
    refine lv_iconst (v := 0) hx hb d_Mod_expectWord_0 (by decide) ?_
    refine lv_istore_n (lv' := [(2, .int 0), (0, .ref (bd 0)), (1, .ref (adK i))]) hx hb d_Mod_expectWord_1 rfl hl (by decide) rfl (fun ls hl => ?_)
    have loop2 : ∀ (k : Nat) (j : Nat) (s1 : MS) (H : Heap) (locs : List Loc) (ls : Array Slot), j + k = (sw i).length → mInv s1 → mWord (sw i) st = mWord ((sw i).drop j) s1 → va_P D vwCl (mdW bd ce s1) H → va_D A (mdW bd ce s1) → va_S A s.heap H locs → lv_has ls 3 [(2, .int (nI j)), (0, .ref (bd 0)), (1, .ref (adK i))] → W p l e (rmD 5) s m ([.ref (bd 0), .ref (adK i)] : List Value).toArray below meth c H locs 0 0 Q (F0 m 2 ls []) := by
      intro k
      induction k with
      | zero =>
        intro j s1 H locs ls hj hv hF hP hD hS hl
        have hlen := sw_len hi
        have ez : (sw i).drop j = [] := sw_nil (by omega)
        refine lv_iload_n hx hb d_Mod_expectWord_2 rfl (lv_at hl 0 rfl) ?_
        refine lv_aload_n hx hb d_Mod_expectWord_3 rfl (lv_at hl 2 rfl) ?_
        refine hx_Vi (wr := [(bd 0, .inr (4, [.int (gR s1 0), .ref (bd 1), .int (gR s1 1), .int (gR s1 2), .int (gR s1 3), .int (gR s1 4), .int (gR s1 5), .int (gR s1 6), .int (gR s1 7), .int (gR s1 8), .int (gR s1 9), .int (gR s1 10), .int (gR s1 11), .int (gR s1 12), .int (gR s1 13), .int (gR s1 14), .int (gR s1 15), .int (gR s1 16), .int (gR s1 17), .int (gR s1 18), .ref (bd 2), .int (gR s1 19), .int (gR s1 20), .int (gR s1 21), .int (gR s1 22), .int (gR s1 23), .int (gR s1 24), .int (gR s1 25), .int (gR s1 26), .ref (bd 3), .ref (bd 4), .ref (bd 5), .ref (bd 6), .int (gR s1 27), .int (gR s1 28), .int (gR s1 29), .int (gR s1 30), .int (gR s1 31)])), (bd 1, .inl (ce 0, 300, .inl (gTp s1))), (bd 2, .inl (ce 1, 8, .inl (gMt s1))), (bd 3, .inl (ce 2, 150, .inl (gNf s1))), (bd 4, .inl (ce 3, 150, .inl (gNt s1))), (bd 5, .inl (ce 4, 18, .inl (gKp s1))), (bd 6, .inl (ce 5, 8, .inl (gKm s1)))]) (As := []) (rest := [.int (nI j)]) hI (c_String_length hi) (cw_V (C := "java/lang/String") 0 hts m_3_118 m_2_32 m_2_33 m_1_11 m_2_34 (by decide +kernel) ⟨by decide, by decide⟩) hX hA hP hD hS [] [0, 1, 2, 3, 4, 5, 6] rfl rfl (by decide) (by decide) (by decide) (va_Orecv (hX.2.1 _ hi).1 hS) rfl hl.1 rfl (Nat.le_of_ble_eq_true rfl) d_Mod_expectWord_4 ⟨Nat.zero_le _, Nat.zero_le _⟩ (fun H locs hP hD hS => ?_)
        have hP : va_P D vwCl (mdW bd ce s1) H := hP.sub [0, 1, 2, 3, 4, 5, 6] rfl
        have hD : va_D A (mdW bd ce s1) := hD.sub [0, 1, 2, 3, 4, 5, 6] (by decide) rfl
        refine lv_icmp_ge (tgt := 30) hx hb d_Mod_expectWord_7 (by decide) (fun c_7 => ?_) (fun c_7 => ?_)
        · skip
          have c_7 : (nI (sw i).length ≤ nI j) := c_7
          refine lv_iconst (v := 1) hx hb d_Mod_expectWord_30 (by decide) ?_
          exact hret H locs s1 true _ _ hP hD hS (pr2 (by first | (rw [hF]; ((try simp only [ez]) <;> simp only [ez, mWord, if_pos c_7, fStop, if_true, if_false, Bool.false_eq_true, ↓reduceIte]); done) | (rw [hF]; ((try simp only [ez]) <;> simp only [ez, mWord, if_pos c_7, fStop, if_true, if_false, Bool.false_eq_true, ↓reduceIte]); with_reducible rfl))) d_Mod_expectWord_31
        · skip
          exact absurd (nI_gyes (N := (sw i).length) rfl (by omega) (by omega)) c_7
      | succ k ih =>
        intro j s1 H locs ls hj hv hF hP hD hS hl
        have hlen := sw_len hi
        have ez : (sw i).drop j = (sw i).getD j 0 :: (sw i).drop (j + 1) := sw_cons (by omega)
        refine lv_iload_n hx hb d_Mod_expectWord_2 rfl (lv_at hl 0 rfl) ?_
        refine lv_aload_n hx hb d_Mod_expectWord_3 rfl (lv_at hl 2 rfl) ?_
        refine hx_Vi (wr := [(bd 0, .inr (4, [.int (gR s1 0), .ref (bd 1), .int (gR s1 1), .int (gR s1 2), .int (gR s1 3), .int (gR s1 4), .int (gR s1 5), .int (gR s1 6), .int (gR s1 7), .int (gR s1 8), .int (gR s1 9), .int (gR s1 10), .int (gR s1 11), .int (gR s1 12), .int (gR s1 13), .int (gR s1 14), .int (gR s1 15), .int (gR s1 16), .int (gR s1 17), .int (gR s1 18), .ref (bd 2), .int (gR s1 19), .int (gR s1 20), .int (gR s1 21), .int (gR s1 22), .int (gR s1 23), .int (gR s1 24), .int (gR s1 25), .int (gR s1 26), .ref (bd 3), .ref (bd 4), .ref (bd 5), .ref (bd 6), .int (gR s1 27), .int (gR s1 28), .int (gR s1 29), .int (gR s1 30), .int (gR s1 31)])), (bd 1, .inl (ce 0, 300, .inl (gTp s1))), (bd 2, .inl (ce 1, 8, .inl (gMt s1))), (bd 3, .inl (ce 2, 150, .inl (gNf s1))), (bd 4, .inl (ce 3, 150, .inl (gNt s1))), (bd 5, .inl (ce 4, 18, .inl (gKp s1))), (bd 6, .inl (ce 5, 8, .inl (gKm s1)))]) (As := []) (rest := [.int (nI j)]) hI (c_String_length hi) (cw_V (C := "java/lang/String") 0 hts m_3_118 m_2_32 m_2_33 m_1_11 m_2_34 (by decide +kernel) ⟨by decide, by decide⟩) hX hA hP hD hS [] [0, 1, 2, 3, 4, 5, 6] rfl rfl (by decide) (by decide) (by decide) (va_Orecv (hX.2.1 _ hi).1 hS) rfl hl.1 rfl (Nat.le_of_ble_eq_true rfl) d_Mod_expectWord_4 ⟨Nat.zero_le _, Nat.zero_le _⟩ (fun H locs hP hD hS => ?_)
        have hP : va_P D vwCl (mdW bd ce s1) H := hP.sub [0, 1, 2, 3, 4, 5, 6] rfl
        have hD : va_D A (mdW bd ce s1) := hD.sub [0, 1, 2, 3, 4, 5, 6] (by decide) rfl
        refine lv_icmp_ge (tgt := 30) hx hb d_Mod_expectWord_7 (by decide) (fun c_7 => ?_) (fun c_7 => ?_)
        · skip
          exact absurd c_7 (nI_gno (N := (sw i).length) rfl (by omega) (by omega))
        · skip
          have c_7 : ¬ (nI (sw i).length ≤ nI j) := c_7
          refine lv_aload_n hx hb d_Mod_expectWord_10 rfl (lv_at hl 1 rfl) ?_
          refine lv_aload_n hx hb d_Mod_expectWord_11 rfl (lv_at hl 2 rfl) ?_
          refine lv_iload_n hx hb d_Mod_expectWord_12 rfl (lv_at hl 0 rfl) ?_
          refine hx_Vi (wr := [(bd 0, .inr (4, [.int (gR s1 0), .ref (bd 1), .int (gR s1 1), .int (gR s1 2), .int (gR s1 3), .int (gR s1 4), .int (gR s1 5), .int (gR s1 6), .int (gR s1 7), .int (gR s1 8), .int (gR s1 9), .int (gR s1 10), .int (gR s1 11), .int (gR s1 12), .int (gR s1 13), .int (gR s1 14), .int (gR s1 15), .int (gR s1 16), .int (gR s1 17), .int (gR s1 18), .ref (bd 2), .int (gR s1 19), .int (gR s1 20), .int (gR s1 21), .int (gR s1 22), .int (gR s1 23), .int (gR s1 24), .int (gR s1 25), .int (gR s1 26), .ref (bd 3), .ref (bd 4), .ref (bd 5), .ref (bd 6), .int (gR s1 27), .int (gR s1 28), .int (gR s1 29), .int (gR s1 30), .int (gR s1 31)])), (bd 1, .inl (ce 0, 300, .inl (gTp s1))), (bd 2, .inl (ce 1, 8, .inl (gMt s1))), (bd 3, .inl (ce 2, 150, .inl (gNf s1))), (bd 4, .inl (ce 3, 150, .inl (gNt s1))), (bd 5, .inl (ce 4, 18, .inl (gKp s1))), (bd 6, .inl (ce 5, 8, .inl (gKm s1)))]) (As := [.int (nI j)]) (rest := [.ref (bd 0)]) hI (c_String_charAt hi (j := j) (by omega)) (cw_V (C := "java/lang/String") 1 hts m_3_119 m_2_50 m_2_51 m_1_11 m_2_52 (by decide +kernel) ⟨by decide, by decide⟩) hX hA hP hD hS [] [0, 1, 2, 3, 4, 5, 6] rfl rfl (by decide) (by decide) (by decide) (va_Orecv (hX.2.1 _ hi).1 hS) rfl hl.1 rfl (Nat.le_of_ble_eq_true rfl) d_Mod_expectWord_13 ⟨Nat.zero_le _, Nat.zero_le _⟩ (fun H locs hP hD hS => ?_)
          have hP : va_P D vwCl (mdW bd ce s1) H := hP.sub [0, 1, 2, 3, 4, 5, 6] rfl
          have hD : va_D A (mdW bd ce s1) := hD.sub [0, 1, 2, 3, 4, 5, 6] (by decide) rfl
          refine hx_Vz (wr := []) (As := [.int ((sw i).getD j 0)]) (rest := []) hI (c_Mod_expect s1 hv ((sw i).getD j 0) (sw_ne i hi _ (sw_mem (by omega)))) (cw_V (C := "HeadDeskModel") 1 hts m_3_120 m_3_122 ms_28 m_1_5 m_3_123 (by decide +kernel) ⟨by decide, by decide⟩) hX hA hP hD hS [0, 1, 2, 3, 4, 5, 6] [] rfl rfl (by decide) (by decide) (by decide) (va_recv hX.1 hP (ci := 4) (q0 := 0) rfl rfl) rfl hl.1 rfl (Nat.le_of_ble_eq_true rfl) d_Mod_expectWord_16 ⟨Nat.zero_le _, Nat.zero_le _⟩ (fun H locs hP hD hS => ?_)
          obtain ⟨s_16, e_16⟩ : ∃ z : MS, z = (mExp s1 ((sw i).getD j 0)).2 := ⟨_, rfl⟩
          have i_16 : mInv s_16 := by rw [e_16]; exact inv_exp hv (sw_ne i hi _ (sw_mem (by omega)))
          have hP : va_P D vwCl (mdW bd ce s_16) H := by rw [e_16]; exact hP
          have hD : va_D A (mdW bd ce s_16) := by rw [e_16]; exact hD
          refine lv_if_ne (tgt := 24) hx hb d_Mod_expectWord_19 (by decide) (fun c_19 => ?_) (fun c_19 => ?_)
          · skip
            have c_19 : ((mExp s1 ((sw i).getD j 0)).1) = true := bI_1 c_19
            refine lv_iinc (v := nI (j + 1)) (lv' := [(2, .int (nI (j + 1))), (0, .ref (bd 0)), (1, .ref (adK i))]) hx hb d_Mod_expectWord_24 hl (k := 0) rfl (by rw [nI_succ]; rfl) (by decide) rfl (fun ls hl => ?_)
            refine lv_goto (tgt := 2) hx hb d_Mod_expectWord_27 (by decide) ?_
            exact ih (j + 1) s_16 H locs ls (by omega) i_16 (by rw [hF, ez, mWord, bnM_t c_19, ← e_16]) hP hD hS (lv_sub hl [0, 1, 2] rfl)
          · skip
            have c_19 : ((mExp s1 ((sw i).getD j 0)).1) = false := bI_0 c_19
            refine lv_iconst (v := 0) hx hb d_Mod_expectWord_22 (by decide) ?_
            exact hret H locs s_16 false _ _ hP hD hS (pr2 (by first | (rw [hF]; ((try simp only [ez]) <;> simp only [ez, mWord, if_neg c_7, c_19, bnM_f c_19, ← e_16, fStop, if_true, if_false, Bool.false_eq_true, ↓reduceIte]); done) | (rw [hF]; ((try simp only [ez]) <;> simp only [ez, mWord, if_neg c_7, c_19, bnM_f c_19, ← e_16, fStop, if_true, if_false, Bool.false_eq_true, ↓reduceIte]); with_reducible rfl) | (rw [hF]; ((try simp only [ez]) <;> simp only [ez, mWord, if_neg c_7, c_19, bnM_f c_19, ← e_16, fStop, if_true, if_false, Bool.false_eq_true, ↓reduceIte]); rw [e_16]))) d_Mod_expectWord_23
    exact loop2 ((sw i).length) 0 st H locs ls (by omega) hv rfl hP hD hS (lv_sub hl [0, 1, 2] rfl)
  rw [hH, hlo] at goal
  exact goal
