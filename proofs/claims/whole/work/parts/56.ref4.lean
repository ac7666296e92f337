variable {l : Launch} {D : va_G} {bd : Nat → Nat} {ce : Nat → ClassId} {adK adV : Nat → Nat} {tF : Nat} {tys : List (ClassId × FieldType)}

set_option maxHeartbeats 4000000 in
set_option maxRecDepth 100000 in
theorem c_Mod_isWord (st : MS) (hv : mInv st) (hw : wInv st) {i : Nat} (hi : i < nJS) : hx_Mz l D (tyM ce) adK adV tF (mdW bd ce) y_Mod_isWord w_Mod_isWord (rmD 5) [.ref (bd 0), .ref (adK i)] st (mIsW st (sw i)) st := by
  refine hx_Mz.of (cc := b_Mod_isWord) (maxL := 4) (by decide) rfl (Nat.le_of_ble_eq_true rfl) ?_
  intro p e s m below meth c A Q ls hI hX hA hP hD hS hl hret
  obtain ⟨hx, hb, hml, hown, hts⟩ := id hI
  have hts : ∀ w ∈ aw, w.before ([.ref (bd 0), .ref (adK i)] : List Value).toArray s = true := fun w h => hts w (List.mem_cons_of_mem _ h)
  have hown : s.vm.findClass "HeadDeskModel" = some m.cls := hown
  have hI : hx_In p s m ([.ref (bd 0), .ref (adK i)] : List Value).toArray c b_Mod_isWord 4 "HeadDeskModel" aw := ⟨hx, hb, hml, hown, hts⟩
  have hP : va_P D vwCl (mdW bd ce st) s.heap := hP
  obtain ⟨H, hH⟩ : ∃ H, H = s.heap := ⟨_, rfl⟩
  obtain ⟨locs, hlo⟩ : ∃ locs : List Loc, locs = [] := ⟨_, rfl⟩
  have hS : va_S A s.heap H locs := by rw [hH, hlo]; exact hS
  have hP : va_P D vwCl (mdW bd ce st) H := by rw [hH]; exact hP
  have hl : lv_has ls 4 [(0, .ref (bd 0)), (1, .ref (adK i))] := hl
  have goal : W p l e (rmD 5) s m ([.ref (bd 0), .ref (adK i)] : List Value).toArray below meth c H locs 0 0 Q (F0 m 0 ls []) := by
    refine lv_aload_n hx hb d_Mod_isWord_0 rfl (lv_at hl 0 rfl) ?_
    refine va_get (D := D) (ci := 4) (v := .int (gR st 30)) (C := "HeadDeskModel") (T := F_Mod) (N := 38) hx hb hts a_Mod hown hX.1 hP 0 rfl rfl 36 (by decide) (hts _ m_3_13) (fun _ h9 => h9) rfl d_Mod_isWord_1 ?_
    refine lv_aload_n hx hb d_Mod_isWord_4 rfl (lv_at hl 0 rfl) ?_
    refine va_get (D := D) (ci := 4) (v := .int (gR st 29)) (C := "HeadDeskModel") (T := F_Mod) (N := 38) hx hb hts a_Mod hown hX.1 hP 0 rfl rfl 35 (by decide) (hts _ m_3_12) (fun _ h9 => h9) rfl d_Mod_isWord_5 ?_
    refine lv_isub hx hb d_Mod_isWord_8 ?_
    refine lv_aload_n hx hb d_Mod_isWord_9 rfl (lv_at hl 1 rfl) ?_
    refine hx_Vi (wr := [(bd 0, .inr (4, [.int (gR st 0), .ref (bd 1), .int (gR st 1), .int (gR st 2), .int (gR st 3), .int (gR st 4), .int (gR st 5), .int (gR st 6), .int (gR st 7), .int (gR st 8), .int (gR st 9), .int (gR st 10), .int (gR st 11), .int (gR st 12), .int (gR st 13), .int (gR st 14), .int (gR st 15), .int (gR st 16), .int (gR st 17), .int (gR st 18), .ref (bd 2), .int (gR st 19), .int (gR st 20), .int (gR st 21), .int (gR st 22), .int (gR st 23), .int (gR st 24), .int (gR st 25), .int (gR st 26), .ref (bd 3), .ref (bd 4), .ref (bd 5), .ref (bd 6), .int (gR st 27), .int (gR st 28), .int (gR st 29), .int (gR st 30), .int (gR st 31)])), (bd 1, .inl (ce 0, 300, .inl (gTp st))), (bd 2, .inl (ce 1, 8, .inl (gMt st))), (bd 3, .inl (ce 2, 150, .inl (gNf st))), (bd 4, .inl (ce 3, 150, .inl (gNt st))), (bd 5, .inl (ce 4, 18, .inl (gKp st))), (bd 6, .inl (ce 5, 8, .inl (gKm st)))]) (As := []) (rest := [.int ((gR st 30) - (gR st 29))]) hI (c_String_length hi) (cw_V (C := "java/lang/String") 0 hts m_3_118 m_2_32 m_2_33 m_1_11 m_2_34 (by decide +kernel) ⟨by decide, by decide⟩) hX hA hP hD hS [] [0, 1, 2, 3, 4, 5, 6] rfl rfl (by decide) (by decide) (by decide) (va_Orecv (hX.2.1 _ hi).1 hS) rfl hl.1 rfl (Nat.le_of_ble_eq_true rfl) d_Mod_isWord_10 ⟨Nat.zero_le _, Nat.zero_le _⟩ (fun H locs hP hD hS => ?_)
    have hP : va_P D vwCl (mdW bd ce st) H := hP.sub [0, 1, 2, 3, 4, 5, 6] rfl
    have hD : va_D A (mdW bd ce st) := hD.sub [0, 1, 2, 3, 4, 5, 6] (by decide) rfl
    refine lv_icmp_ne (tgt := 20) hx hb d_Mod_isWord_13 (by decide) (fun c_13 => ?_) (fun c_13 => ?_)
    · skip
      have c_13 : ¬ ((gR st 30) - (gR st 29) = nI (sw i).length) := c_13
      refine lv_iconst (v := 0) hx hb d_Mod_isWord_20 (by decide) ?_
      refine lv_istore_n (lv' := [(2, .int 0), (0, .ref (bd 0)), (1, .ref (adK i))]) hx hb d_Mod_isWord_21 rfl hl (by decide) rfl (fun ls hl => ?_)
      refine lv_iconst (v := 0) hx hb d_Mod_isWord_22 (by decide) ?_
      refine lv_istore_n (lv' := [(3, .int 0), (2, .int 0), (0, .ref (bd 0)), (1, .ref (adK i))]) hx hb d_Mod_isWord_23 rfl hl (by decide) rfl (fun ls hl => ?_)
      refine lv_iload_n hx hb d_Mod_isWord_24 rfl (lv_at hl 1 rfl) ?_
      refine lv_if_eq (tgt := 67) hx hb d_Mod_isWord_25 (by decide) (fun c_25 => ?_) (fun c_25 => ?_)
      · skip
        refine lv_iload_n hx hb d_Mod_isWord_67 rfl (lv_at hl 1 rfl) ?_
        exact hret H locs st false _ _ hP hD hS ⟨(by first | (simp only [mIsW, if_neg c_13, fStop, if_true, if_false, Bool.false_eq_true, ↓reduceIte]; done) | (simp only [mIsW, if_neg c_13, fStop, if_true, if_false, Bool.false_eq_true, ↓reduceIte]; with_reducible rfl)), rfl⟩ d_Mod_isWord_68
      · skip
        exact absurd (by decide) c_25
    · skip
      have c_13 : ((gR st 30) - (gR st 29) = nI (sw i).length) := c_13
      refine lv_iconst (v := 1) hx hb d_Mod_isWord_16 (by decide) ?_
      refine lv_goto (tgt := 21) hx hb d_Mod_isWord_17 (by decide) ?_
      refine lv_istore_n (lv' := [(2, .int 1), (0, .ref (bd 0)), (1, .ref (adK i))]) hx hb d_Mod_isWord_21 rfl hl (by decide) rfl (fun ls hl => ?_)
      refine lv_iconst (v := 0) hx hb d_Mod_isWord_22 (by decide) ?_
      refine lv_istore_n (lv' := [(3, .int 0), (2, .int 1), (0, .ref (bd 0)), (1, .ref (adK i))]) hx hb d_Mod_isWord_23 rfl hl (by decide) rfl (fun ls hl => ?_)
      have loop24 : ∀ (k : Nat) (j : Nat) (H : Heap) (locs : List Loc) (ls : Array Slot), j + k = (sw i).length → mIsW st (sw i) = wEqM (gTp st) (gR st 29) ((sw i).drop j) j → va_P D vwCl (mdW bd ce st) H → va_D A (mdW bd ce st) → va_S A s.heap H locs → lv_has ls 4 [(3, .int (nI j)), (2, .int 1), (0, .ref (bd 0)), (1, .ref (adK i))] → W p l e (rmD 5) s m ([.ref (bd 0), .ref (adK i)] : List Value).toArray below meth c H locs 0 0 Q (F0 m 24 ls []) := by
        intro k
        induction k with
        | zero =>
          intro j H locs ls hj hF hP hD hS hl
          have hlen := sw_len hi
          have ez : (sw i).drop j = [] := sw_nil (by omega)
          refine lv_iload_n hx hb d_Mod_isWord_24 rfl (lv_at hl 1 rfl) ?_
          refine lv_if_eq (tgt := 67) hx hb d_Mod_isWord_25 (by decide) (fun c_25 => ?_) (fun c_25 => ?_)
          · skip
            exact absurd c_25 (by decide)
          · skip
            refine lv_iload_n hx hb d_Mod_isWord_28 rfl (lv_at hl 0 rfl) ?_
            refine lv_aload_n hx hb d_Mod_isWord_29 rfl (lv_at hl 3 rfl) ?_
            refine hx_Vi (wr := [(bd 0, .inr (4, [.int (gR st 0), .ref (bd 1), .int (gR st 1), .int (gR st 2), .int (gR st 3), .int (gR st 4), .int (gR st 5), .int (gR st 6), .int (gR st 7), .int (gR st 8), .int (gR st 9), .int (gR st 10), .int (gR st 11), .int (gR st 12), .int (gR st 13), .int (gR st 14), .int (gR st 15), .int (gR st 16), .int (gR st 17), .int (gR st 18), .ref (bd 2), .int (gR st 19), .int (gR st 20), .int (gR st 21), .int (gR st 22), .int (gR st 23), .int (gR st 24), .int (gR st 25), .int (gR st 26), .ref (bd 3), .ref (bd 4), .ref (bd 5), .ref (bd 6), .int (gR st 27), .int (gR st 28), .int (gR st 29), .int (gR st 30), .int (gR st 31)])), (bd 1, .inl (ce 0, 300, .inl (gTp st))), (bd 2, .inl (ce 1, 8, .inl (gMt st))), (bd 3, .inl (ce 2, 150, .inl (gNf st))), (bd 4, .inl (ce 3, 150, .inl (gNt st))), (bd 5, .inl (ce 4, 18, .inl (gKp st))), (bd 6, .inl (ce 5, 8, .inl (gKm st)))]) (As := []) (rest := [.int (nI j)]) hI (c_String_length hi) (cw_V (C := "java/lang/String") 0 hts m_3_118 m_2_32 m_2_33 m_1_11 m_2_34 (by decide +kernel) ⟨by decide, by decide⟩) hX hA hP hD hS [] [0, 1, 2, 3, 4, 5, 6] rfl rfl (by decide) (by decide) (by decide) (va_Orecv (hX.2.1 _ hi).1 hS) rfl hl.1 rfl (Nat.le_of_ble_eq_true rfl) d_Mod_isWord_30 ⟨Nat.zero_le _, Nat.zero_le _⟩ (fun H locs hP hD hS => ?_)
            have hP : va_P D vwCl (mdW bd ce st) H := hP.sub [0, 1, 2, 3, 4, 5, 6] rfl
            have hD : va_D A (mdW bd ce st) := hD.sub [0, 1, 2, 3, 4, 5, 6] (by decide) rfl
            refine lv_icmp_ge (tgt := 67) hx hb d_Mod_isWord_33 (by decide) (fun c_33 => ?_) (fun c_33 => ?_)
            · skip
              have c_33 : (nI (sw i).length ≤ nI j) := c_33
              refine lv_iload_n hx hb d_Mod_isWord_67 rfl (lv_at hl 1 rfl) ?_
              exact hret H locs st true _ _ hP hD hS ⟨(by first | (rw [hF]; ((try simp only [ez]) <;> simp only [ez, wEqM, if_pos c_33, fStop, if_true, if_false, Bool.false_eq_true, ↓reduceIte]); done) | (rw [hF]; ((try simp only [ez]) <;> simp only [ez, wEqM, if_pos c_33, fStop, if_true, if_false, Bool.false_eq_true, ↓reduceIte]); with_reducible rfl)), rfl⟩ d_Mod_isWord_68
            · skip
              exact absurd (nI_gyes (N := (sw i).length) rfl (by omega) (by omega)) c_33
        | succ k ih =>
          intro j H locs ls hj hF hP hD hS hl
          have hlen := sw_len hi
          have ez : (sw i).drop j = (sw i).getD j 0 :: (sw i).drop (j + 1) := sw_cons (by omega)
          refine lv_iload_n hx hb d_Mod_isWord_24 rfl (lv_at hl 1 rfl) ?_
          refine lv_if_eq (tgt := 67) hx hb d_Mod_isWord_25 (by decide) (fun c_25 => ?_) (fun c_25 => ?_)
          · skip
            exact absurd c_25 (by decide)
          · skip
            refine lv_iload_n hx hb d_Mod_isWord_28 rfl (lv_at hl 0 rfl) ?_
            refine lv_aload_n hx hb d_Mod_isWord_29 rfl (lv_at hl 3 rfl) ?_
            refine hx_Vi (wr := [(bd 0, .inr (4, [.int (gR st 0), .ref (bd 1), .int (gR st 1), .int (gR st 2), .int (gR st 3), .int (gR st 4), .int (gR st 5), .int (gR st 6), .int (gR st 7), .int (gR st 8), .int (gR st 9), .int (gR st 10), .int (gR st 11), .int (gR st 12), .int (gR st 13), .int (gR st 14), .int (gR st 15), .int (gR st 16), .int (gR st 17), .int (gR st 18), .ref (bd 2), .int (gR st 19), .int (gR st 20), .int (gR st 21), .int (gR st 22), .int (gR st 23), .int (gR st 24), .int (gR st 25), .int (gR st 26), .ref (bd 3), .ref (bd 4), .ref (bd 5), .ref (bd 6), .int (gR st 27), .int (gR st 28), .int (gR st 29), .int (gR st 30), .int (gR st 31)])), (bd 1, .inl (ce 0, 300, .inl (gTp st))), (bd 2, .inl (ce 1, 8, .inl (gMt st))), (bd 3, .inl (ce 2, 150, .inl (gNf st))), (bd 4, .inl (ce 3, 150, .inl (gNt st))), (bd 5, .inl (ce 4, 18, .inl (gKp st))), (bd 6, .inl (ce 5, 8, .inl (gKm st)))]) (As := []) (rest := [.int (nI j)]) hI (c_String_length hi) (cw_V (C := "java/lang/String") 0 hts m_3_118 m_2_32 m_2_33 m_1_11 m_2_34 (by decide +kernel) ⟨by decide, by decide⟩) hX hA hP hD hS [] [0, 1, 2, 3, 4, 5, 6] rfl rfl (by decide) (by decide) (by decide) (va_Orecv (hX.2.1 _ hi).1 hS) rfl hl.1 rfl (Nat.le_of_ble_eq_true rfl) d_Mod_isWord_30 ⟨Nat.zero_le _, Nat.zero_le _⟩ (fun H locs hP hD hS => ?_)
            have hP : va_P D vwCl (mdW bd ce st) H := hP.sub [0, 1, 2, 3, 4, 5, 6] rfl
            have hD : va_D A (mdW bd ce st) := hD.sub [0, 1, 2, 3, 4, 5, 6] (by decide) rfl
            refine lv_icmp_ge (tgt := 67) hx hb d_Mod_isWord_33 (by decide) (fun c_33 => ?_) (fun c_33 => ?_)
            · skip
              exact absurd c_33 (nI_gno (N := (sw i).length) rfl (by omega) (by omega))
            · skip
              have c_33 : ¬ (nI (sw i).length ≤ nI j) := c_33
              refine lv_aload_n hx hb d_Mod_isWord_36 rfl (lv_at hl 2 rfl) ?_
              refine va_get (D := D) (ci := 4) (v := .ref (bd 1)) (C := "HeadDeskModel") (T := F_Mod) (N := 38) hx hb hts a_Mod hown hX.1 hP 0 rfl rfl 1 (by decide) (hts _ m_2_218) (fun _ h9 => h9) rfl d_Mod_isWord_37 ?_
              refine lv_aload_n hx hb d_Mod_isWord_40 rfl (lv_at hl 2 rfl) ?_
              refine va_get (D := D) (ci := 4) (v := .int (gR st 29)) (C := "HeadDeskModel") (T := F_Mod) (N := 38) hx hb hts a_Mod hown hX.1 hP 0 rfl rfl 35 (by decide) (hts _ m_3_12) (fun _ h9 => h9) rfl d_Mod_isWord_41 ?_
              refine lv_iload_n hx hb d_Mod_isWord_44 rfl (lv_at hl 0 rfl) ?_
              refine lv_iadd hx hb d_Mod_isWord_45 ?_
              refine va_iald hx hb hX.1 hP 1 0 rfl rfl (wd_in hw c_13 (by omega) hlen) d_Mod_isWord_46 ?_
              refine lv_aload_n hx hb d_Mod_isWord_47 rfl (lv_at hl 3 rfl) ?_
              refine lv_iload_n hx hb d_Mod_isWord_48 rfl (lv_at hl 0 rfl) ?_
              refine hx_Vi (wr := [(bd 0, .inr (4, [.int (gR st 0), .ref (bd 1), .int (gR st 1), .int (gR st 2), .int (gR st 3), .int (gR st 4), .int (gR st 5), .int (gR st 6), .int (gR st 7), .int (gR st 8), .int (gR st 9), .int (gR st 10), .int (gR st 11), .int (gR st 12), .int (gR st 13), .int (gR st 14), .int (gR st 15), .int (gR st 16), .int (gR st 17), .int (gR st 18), .ref (bd 2), .int (gR st 19), .int (gR st 20), .int (gR st 21), .int (gR st 22), .int (gR st 23), .int (gR st 24), .int (gR st 25), .int (gR st 26), .ref (bd 3), .ref (bd 4), .ref (bd 5), .ref (bd 6), .int (gR st 27), .int (gR st 28), .int (gR st 29), .int (gR st 30), .int (gR st 31)])), (bd 1, .inl (ce 0, 300, .inl (gTp st))), (bd 2, .inl (ce 1, 8, .inl (gMt st))), (bd 3, .inl (ce 2, 150, .inl (gNf st))), (bd 4, .inl (ce 3, 150, .inl (gNt st))), (bd 5, .inl (ce 4, 18, .inl (gKp st))), (bd 6, .inl (ce 5, 8, .inl (gKm st)))]) (As := [.int (nI j)]) (rest := [.int ((gTp st) ((gR st 29) + (nI j)).toNatClampNeg)]) hI (c_String_charAt hi (j := j) (by omega)) (cw_V (C := "java/lang/String") 1 hts m_3_119 m_2_50 m_2_51 m_1_11 m_2_52 (by decide +kernel) ⟨by decide, by decide⟩) hX hA hP hD hS [] [0, 1, 2, 3, 4, 5, 6] rfl rfl (by decide) (by decide) (by decide) (va_Orecv (hX.2.1 _ hi).1 hS) rfl hl.1 rfl (Nat.le_of_ble_eq_true rfl) d_Mod_isWord_49 ⟨Nat.zero_le _, Nat.zero_le _⟩ (fun H locs hP hD hS => ?_)
              have hP : va_P D vwCl (mdW bd ce st) H := hP.sub [0, 1, 2, 3, 4, 5, 6] rfl
              have hD : va_D A (mdW bd ce st) := hD.sub [0, 1, 2, 3, 4, 5, 6] (by decide) rfl
              refine lv_icmp_ne (tgt := 59) hx hb d_Mod_isWord_52 (by decide) (fun c_52 => ?_) (fun c_52 => ?_)
              · skip
                have c_52 : ¬ ((gTp st) ((gR st 29) + (nI j)).toNatClampNeg = (sw i).getD j 0) := c_52
                refine lv_iconst (v := 0) hx hb d_Mod_isWord_59 (by decide) ?_
                refine lv_istore_n (lv' := [(2, .int 0), (3, .int (nI j)), (0, .ref (bd 0)), (1, .ref (adK i))]) hx hb d_Mod_isWord_60 rfl hl (by decide) rfl (fun ls hl => ?_)
                refine lv_iinc (v := nI (j + 1)) (lv' := [(3, .int (nI (j + 1))), (2, .int 0), (0, .ref (bd 0)), (1, .ref (adK i))]) hx hb d_Mod_isWord_61 hl (k := 1) rfl (by rw [nI_succ]; rfl) (by decide) rfl (fun ls hl => ?_)
                refine lv_goto (tgt := 24) hx hb d_Mod_isWord_64 (by decide) ?_
                refine lv_iload_n hx hb d_Mod_isWord_24 rfl (lv_at hl 1 rfl) ?_
                refine lv_if_eq (tgt := 67) hx hb d_Mod_isWord_25 (by decide) (fun c_25 => ?_) (fun c_25 => ?_)
                · skip
                  refine lv_iload_n hx hb d_Mod_isWord_67 rfl (lv_at hl 1 rfl) ?_
                  exact hret H locs st false _ _ hP hD hS ⟨(by first | (rw [hF]; ((try simp only [ez]) <;> simp only [ez, wEqM, if_neg c_33, if_neg c_52, fStop, if_true, if_false, Bool.false_eq_true, ↓reduceIte]); done) | (rw [hF]; ((try simp only [ez]) <;> simp only [ez, wEqM, if_neg c_33, if_neg c_52, fStop, if_true, if_false, Bool.false_eq_true, ↓reduceIte]); with_reducible rfl)), rfl⟩ d_Mod_isWord_68
                · skip
                  exact absurd (by decide) c_25
              · skip
                have c_52 : ((gTp st) ((gR st 29) + (nI j)).toNatClampNeg = (sw i).getD j 0) := c_52
                refine lv_iconst (v := 1) hx hb d_Mod_isWord_55 (by decide) ?_
                refine lv_goto (tgt := 60) hx hb d_Mod_isWord_56 (by decide) ?_
                refine lv_istore_n (lv' := [(2, .int 1), (3, .int (nI j)), (0, .ref (bd 0)), (1, .ref (adK i))]) hx hb d_Mod_isWord_60 rfl hl (by decide) rfl (fun ls hl => ?_)
                refine lv_iinc (v := nI (j + 1)) (lv' := [(3, .int (nI (j + 1))), (2, .int 1), (0, .ref (bd 0)), (1, .ref (adK i))]) hx hb d_Mod_isWord_61 hl (k := 1) rfl (by rw [nI_succ]; rfl) (by decide) rfl (fun ls hl => ?_)
                refine lv_goto (tgt := 24) hx hb d_Mod_isWord_64 (by decide) ?_
                exact ih (j + 1) H locs ls (by omega) (by rw [hF, ez, wEqM, if_pos c_52]) hP hD hS (lv_sub hl [0, 1, 2, 3] rfl)
      exact loop24 ((sw i).length) 0  H locs ls (by omega) (by simp only [mIsW, if_pos c_13, List.drop_zero]) hP hD hS (lv_sub hl [0, 1, 2, 3] rfl)
  rw [hH, hlo] at goal
  exact goal
