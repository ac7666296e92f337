variable {l : Launch} {D : va_G} {ad : Nat → Nat} {cd : Nat → ClassId} {adK adV : Nat → Nat} {tF : Nat} {T : TX} {tys : List (ClassId × FieldType)}
variable {ah av ar : Nat} {cv cr : ClassId} {tv tr : Nat}

set_option maxHeartbeats 4000000 in
set_option maxRecDepth 100000 in
theorem c_Head_firstByte (htv : tys[tv]? = some (cv, FieldType.int)) (htr : tys[tr]? = some (cr, FieldType.int)) (q : (Nat → Int32) × (Nat → Int32)) (x : Int32) : hx_Mi l D tys adK adV tF (hdW ah av ar cv cr) y_Head_firstByte w_Head_firstByte (rmD 2) [.ref ah, .int x] q (hFst q.1 x) q := by
  refine hx_Mi.of (cc := b_Head_firstByte) (maxL := 2) rfl (by decide) rfl (Nat.le_of_ble_eq_true rfl) ?_
  intro p e s m below meth c A Q ls hI hX hA hP hD hS hl hret
  obtain ⟨hx, hb, hml, hown, hts⟩ := id hI
  have hts : ∀ w ∈ aw, w.before ([.ref ah, .int x] : List Value).toArray s = true := fun w h => hts w (List.mem_cons_of_mem _ h)
  have hown : s.vm.findClass "HeadDesk$Head" = some m.cls := hown
  have hI : hx_In p s m ([.ref ah, .int x] : List Value).toArray c b_Head_firstByte 2 "HeadDesk$Head" aw := ⟨hx, hb, hml, hown, hts⟩
  have hP : va_P D vwCl (hdW ah av ar cv cr q) s.heap := hP
  obtain ⟨H, hH⟩ : ∃ H, H = s.heap := ⟨_, rfl⟩
  obtain ⟨locs, hlo⟩ : ∃ locs : List Loc, locs = [] := ⟨_, rfl⟩
  have hS : va_S A s.heap H locs := by rw [hH, hlo]; exact hS
  have hP : va_P D vwCl (hdW ah av ar cv cr q) H := by rw [hH]; exact hP
  have hl : lv_has ls 2 [(0, .ref ah), (1, .int x)] := hl
  have goal : W p l e (rmD 2) s m ([.ref ah, .int x] : List Value).toArray below meth c H locs 0 0 Q (F0 m 0 ls []) := by
    refine lv_aload_n hx hb d_Head_firstByte_0 rfl (lv_at hl 0 rfl) ?_
    refine va_get (D := D) (ci := 0) (v := .ref av) (C := "HeadDesk$Head") (T := F_Head) (N := 2) hx hb hts a_Head hown hX.1 hP 0 rfl rfl 0 (by decide) (hts _ m_1_52) (fun _ h9 => h9) rfl d_Head_firstByte_1 ?_
    refine lv_iconst (v := 3) hx hb d_Head_firstByte_4 (by decide) ?_
    refine va_iald hx hb hX.1 hP 1 tv rfl htv (vp_in_iff.mpr (by decide)) d_Head_firstByte_5 ?_
    refine hx_top (v := q.1 3) (by first | rfl | (rw [nI_clamp (by omega)])) ?_
    by_cases h_6_1 : q.1 3 = 1
    · refine hx_top h_6_1 ?_
      refine lv_tableIn (off := 26) (tgt := 32) hx hb d_Head_firstByte_6 (by decide) (by decide) rfl (by decide) ?_
      refine lv_aload_n hx hb d_Head_firstByte_32 rfl (lv_at hl 0 rfl) ?_
      refine va_get (D := D) (ci := 0) (v := .ref av) (C := "HeadDesk$Head") (T := F_Head) (N := 2) hx hb hts a_Head hown hX.1 hP 0 rfl rfl 0 (by decide) (hts _ m_1_52) (fun _ h9 => h9) rfl d_Head_firstByte_33 ?_
      refine lv_iconst (v := 4) hx hb d_Head_firstByte_36 (by decide) ?_
      refine va_iald hx hb hX.1 hP 1 tv rfl htv (vp_in_iff.mpr (by decide)) d_Head_firstByte_37 ?_
      refine hx_top (v := q.1 4) (by first | rfl | (rw [nI_clamp (by omega)])) ?_
      exact hret H locs q (q.1 4) _ _ hP hD hS ⟨(by first | (simp only [hFst, if_pos h_6_1, fStop, if_true, if_false, Bool.false_eq_true, ↓reduceIte]; done) | (simp only [hFst, if_pos h_6_1, fStop, if_true, if_false, Bool.false_eq_true, ↓reduceIte]; with_reducible rfl)), rfl⟩ d_Head_firstByte_38
    by_cases h_6_2 : q.1 3 = 2
    · refine hx_top h_6_2 ?_
      refine lv_tableIn (off := 26) (tgt := 32) hx hb d_Head_firstByte_6 (by decide) (by decide) rfl (by decide) ?_
      refine lv_aload_n hx hb d_Head_firstByte_32 rfl (lv_at hl 0 rfl) ?_
      refine va_get (D := D) (ci := 0) (v := .ref av) (C := "HeadDesk$Head") (T := F_Head) (N := 2) hx hb hts a_Head hown hX.1 hP 0 rfl rfl 0 (by decide) (hts _ m_1_52) (fun _ h9 => h9) rfl d_Head_firstByte_33 ?_
      refine lv_iconst (v := 4) hx hb d_Head_firstByte_36 (by decide) ?_
      refine va_iald hx hb hX.1 hP 1 tv rfl htv (vp_in_iff.mpr (by decide)) d_Head_firstByte_37 ?_
      refine hx_top (v := q.1 4) (by first | rfl | (rw [nI_clamp (by omega)])) ?_
      exact hret H locs q (q.1 4) _ _ hP hD hS ⟨(by first | (simp only [hFst, if_neg h_6_1, if_pos h_6_2, fStop, if_true, if_false, Bool.false_eq_true, ↓reduceIte]; done) | (simp only [hFst, if_neg h_6_1, if_pos h_6_2, fStop, if_true, if_false, Bool.false_eq_true, ↓reduceIte]; with_reducible rfl)), rfl⟩ d_Head_firstByte_38
    by_cases h_6_3 : q.1 3 = 3
    · refine hx_top h_6_3 ?_
      refine lv_tableIn (off := 33) (tgt := 39) hx hb d_Head_firstByte_6 (by decide) (by decide) rfl (by decide) ?_
      refine lv_iload_n hx hb d_Head_firstByte_39 rfl (lv_at hl 1 rfl) ?_
      refine lv_aload_n hx hb d_Head_firstByte_40 rfl (lv_at hl 0 rfl) ?_
      refine va_get (D := D) (ci := 0) (v := .ref av) (C := "HeadDesk$Head") (T := F_Head) (N := 2) hx hb hts a_Head hown hX.1 hP 0 rfl rfl 0 (by decide) (hts _ m_1_52) (fun _ h9 => h9) rfl d_Head_firstByte_41 ?_
      refine lv_iconst (v := 4) hx hb d_Head_firstByte_44 (by decide) ?_
      refine va_iald hx hb hX.1 hP 1 tv rfl htv (vp_in_iff.mpr (by decide)) d_Head_firstByte_45 ?_
      refine hx_top (v := q.1 4) (by first | rfl | (rw [nI_clamp (by omega)])) ?_
      refine lv_iload_n hx hb d_Head_firstByte_46 rfl (lv_at hl 1 rfl) ?_
      refine va_mmin hx hb (hml.trans hl.1.symm) hown (hts _ m_1_159) (hts _ m_1_160) (hts _ m_1_15) (hts _ m_1_161) (by decide) (Nat.le_of_ble_eq_true rfl) (Nat.zero_le _) (Nat.zero_le _) d_Head_firstByte_47 ?_
      refine hx_top (v := iMin (q.1 4) x) rfl ?_
      refine lv_isub hx hb d_Head_firstByte_50 ?_
      exact hret H locs q (x - (iMin (q.1 4) x)) _ _ hP hD hS ⟨(by first | (simp only [hFst, if_neg h_6_1, if_neg h_6_2, if_pos h_6_3, fStop, if_true, if_false, Bool.false_eq_true, ↓reduceIte]; done) | (simp only [hFst, if_neg h_6_1, if_neg h_6_2, if_pos h_6_3, fStop, if_true, if_false, Bool.false_eq_true, ↓reduceIte]; with_reducible rfl)), rfl⟩ d_Head_firstByte_51
    refine lv_tableOut (tgt := 52) hx hb d_Head_firstByte_6 (tb13 h_6_1 h_6_2 h_6_3) (by decide) ?_
    refine lv_iconst (v := 0) hx hb d_Head_firstByte_52 (by decide) ?_
    exact hret H locs q 0 _ _ hP hD hS ⟨(by first | (simp only [hFst, if_neg h_6_1, if_neg h_6_2, if_neg h_6_3, fStop, if_true, if_false, Bool.false_eq_true, ↓reduceIte]; done) | (simp only [hFst, if_neg h_6_1, if_neg h_6_2, if_neg h_6_3, fStop, if_true, if_false, Bool.false_eq_true, ↓reduceIte]; with_reducible rfl)), rfl⟩ d_Head_firstByte_53
  rw [hH, hlo] at goal
  exact goal
set_option maxHeartbeats 4000000 in
set_option maxRecDepth 100000 in
theorem c_Head_lastByte (htv : tys[tv]? = some (cv, FieldType.int)) (htr : tys[tr]? = some (cr, FieldType.int)) (q : (Nat → Int32) × (Nat → Int32)) (x : Int32) : hx_Mi l D tys adK adV tF (hdW ah av ar cv cr) y_Head_lastByte w_Head_lastByte (rmD 2) [.ref ah, .int x] q (hLst q.1 x) q := by
  refine hx_Mi.of (cc := b_Head_lastByte) (maxL := 2) rfl (by decide) rfl (Nat.le_of_ble_eq_true rfl) ?_
  intro p e s m below meth c A Q ls hI hX hA hP hD hS hl hret
  obtain ⟨hx, hb, hml, hown, hts⟩ := id hI
  have hts : ∀ w ∈ aw, w.before ([.ref ah, .int x] : List Value).toArray s = true := fun w h => hts w (List.mem_cons_of_mem _ h)
  have hown : s.vm.findClass "HeadDesk$Head" = some m.cls := hown
  have hI : hx_In p s m ([.ref ah, .int x] : List Value).toArray c b_Head_lastByte 2 "HeadDesk$Head" aw := ⟨hx, hb, hml, hown, hts⟩
  have hP : va_P D vwCl (hdW ah av ar cv cr q) s.heap := hP
  obtain ⟨H, hH⟩ : ∃ H, H = s.heap := ⟨_, rfl⟩
  obtain ⟨locs, hlo⟩ : ∃ locs : List Loc, locs = [] := ⟨_, rfl⟩
  have hS : va_S A s.heap H locs := by rw [hH, hlo]; exact hS
  have hP : va_P D vwCl (hdW ah av ar cv cr q) H := by rw [hH]; exact hP
  have hl : lv_has ls 2 [(0, .ref ah), (1, .int x)] := hl
  have goal : W p l e (rmD 2) s m ([.ref ah, .int x] : List Value).toArray below meth c H locs 0 0 Q (F0 m 0 ls []) := by
    refine lv_aload_n hx hb d_Head_lastByte_0 rfl (lv_at hl 0 rfl) ?_
    refine va_get (D := D) (ci := 0) (v := .ref av) (C := "HeadDesk$Head") (T := F_Head) (N := 2) hx hb hts a_Head hown hX.1 hP 0 rfl rfl 0 (by decide) (hts _ m_1_52) (fun _ h9 => h9) rfl d_Head_lastByte_1 ?_
    refine lv_iconst (v := 3) hx hb d_Head_lastByte_4 (by decide) ?_
    refine va_iald hx hb hX.1 hP 1 tv rfl htv (vp_in_iff.mpr (by decide)) d_Head_lastByte_5 ?_
    refine hx_top (v := q.1 3) (by first | rfl | (rw [nI_clamp (by omega)])) ?_
    refine lv_iconst (v := 1) hx hb d_Head_lastByte_6 (by decide) ?_
    refine lv_icmp_ne (tgt := 25) hx hb d_Head_lastByte_7 (by decide) (fun c_7 => ?_) (fun c_7 => ?_)
    · skip
      have c_7 : ¬ (q.1 3 = 1) := c_7
      refine lv_iload_n hx hb d_Head_lastByte_25 rfl (lv_at hl 1 rfl) ?_
      refine lv_iconst (v := 1) hx hb d_Head_lastByte_26 (by decide) ?_
      refine lv_isub hx hb d_Head_lastByte_27 ?_
      exact hret H locs q (x - 1) _ _ hP hD hS ⟨(by first | (simp only [hLst, if_neg c_7, fStop, if_true, if_false, Bool.false_eq_true, ↓reduceIte]; done) | (simp only [hLst, if_neg c_7, fStop, if_true, if_false, Bool.false_eq_true, ↓reduceIte]; with_reducible rfl)), rfl⟩ d_Head_lastByte_28
    · skip
      have c_7 : (q.1 3 = 1) := c_7
      refine lv_aload_n hx hb d_Head_lastByte_10 rfl (lv_at hl 0 rfl) ?_
      refine va_get (D := D) (ci := 0) (v := .ref av) (C := "HeadDesk$Head") (T := F_Head) (N := 2) hx hb hts a_Head hown hX.1 hP 0 rfl rfl 0 (by decide) (hts _ m_1_52) (fun _ h9 => h9) rfl d_Head_lastByte_11 ?_
      refine lv_iconst (v := 5) hx hb d_Head_lastByte_14 (by decide) ?_
      refine va_iald hx hb hX.1 hP 1 tv rfl htv (vp_in_iff.mpr (by decide)) d_Head_lastByte_15 ?_
      refine hx_top (v := q.1 5) (by first | rfl | (rw [nI_clamp (by omega)])) ?_
      refine lv_iload_n hx hb d_Head_lastByte_16 rfl (lv_at hl 1 rfl) ?_
      refine lv_iconst (v := 1) hx hb d_Head_lastByte_17 (by decide) ?_
      refine lv_isub hx hb d_Head_lastByte_18 ?_
      refine va_mmin hx hb (hml.trans hl.1.symm) hown (hts _ m_1_159) (hts _ m_1_160) (hts _ m_1_15) (hts _ m_1_161) (by decide) (Nat.le_of_ble_eq_true rfl) (Nat.zero_le _) (Nat.zero_le _) d_Head_lastByte_19 ?_
      refine hx_top (v := iMin (q.1 5) (x - 1)) rfl ?_
      refine lv_goto (tgt := 28) hx hb d_Head_lastByte_22 (by decide) ?_
      exact hret H locs q (iMin (q.1 5) (x - 1)) _ _ hP hD hS ⟨(by first | (simp only [hLst, if_pos c_7, fStop, if_true, if_false, Bool.false_eq_true, ↓reduceIte]; done) | (simp only [hLst, if_pos c_7, fStop, if_true, if_false, Bool.false_eq_true, ↓reduceIte]; with_reducible rfl)), rfl⟩ d_Head_lastByte_28
  rw [hH, hlo] at goal
  exact goal
