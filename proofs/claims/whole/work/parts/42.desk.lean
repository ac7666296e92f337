variable {l : Launch} {D : va_G} {ad : Nat → Nat} {cd : Nat → ClassId} {adK adV : Nat → Nat} {tF : Nat} {T : TX} {tys : List (ClassId × FieldType)}

set_option maxHeartbeats 4000000 in
set_option maxRecDepth 100000 in
theorem c_Desk_fault (d : DS)  : hx_Mi l D (tyH cd) adK adV tF (dkW ad cd) y_Desk_fault w_Desk_fault (rmD 1) [.ref (ad 8)] d (dL d) d := by
  refine hx_Mi.of (cc := b_Desk_fault) (maxL := 1) rfl (by decide) rfl (Nat.le_of_ble_eq_true rfl) ?_
  intro p e s m below meth c A Q ls hI hX hA hP hD hS hl hret
  obtain ⟨hx, hb, hml, hown, hts⟩ := id hI
  have hts : ∀ w ∈ aw, w.before ([.ref (ad 8)] : List Value).toArray s = true := fun w h => hts w (List.mem_cons_of_mem _ h)
  have hown : s.vm.findClass "HeadDesk" = some m.cls := hown
  have hI : hx_In p s m ([.ref (ad 8)] : List Value).toArray c b_Desk_fault 1 "HeadDesk" aw := ⟨hx, hb, hml, hown, hts⟩
  have hP : va_P D vwCl (dkW ad cd d) s.heap := hP
  obtain ⟨H, hH⟩ : ∃ H, H = s.heap := ⟨_, rfl⟩
  obtain ⟨locs, hlo⟩ : ∃ locs : List Loc, locs = [] := ⟨_, rfl⟩
  have hS : va_S A s.heap H locs := by rw [hH, hlo]; exact hS
  have hP : va_P D vwCl (dkW ad cd d) H := by rw [hH]; exact hP
  have hl : lv_has ls 1 [(0, .ref (ad 8))] := hl
  have goal : W p l e (rmD 1) s m ([.ref (ad 8)] : List Value).toArray below meth c H locs 0 0 Q (F0 m 0 ls []) := by
    refine lv_aload_n hx hb d_Desk_fault_0 rfl (lv_at hl 0 rfl) ?_
    refine va_get (D := D) (ci := 3) (v := .int (dL d)) (C := "HeadDesk") (T := F_Desk) (N := 5) hx hb hts a_Desk hown hX.1 hP 0 rfl rfl 4 (by decide) (hts _ m_1_101) (fun _ h9 => h9) rfl d_Desk_fault_1 ?_
    exact hret H locs d (dL d) _ _ hP hD hS ⟨rfl, rfl⟩ d_Desk_fault_4
  rw [hH, hlo] at goal
  exact goal
set_option maxHeartbeats 4000000 in
set_option maxRecDepth 100000 in
theorem c_Desk_told (d : DS) (x : Int32) : hx_Mi l D (tyH cd) adK adV tF (dkW ad cd) y_Desk_told w_Desk_told (rmD 2) [.ref (ad 8), .int x] d (fTold d x) d := by
  refine hx_Mi.of (cc := b_Desk_told) (maxL := 2) rfl (by decide) rfl (Nat.le_of_ble_eq_true rfl) ?_
  intro p e s m below meth c A Q ls hI hX hA hP hD hS hl hret
  obtain ⟨hx, hb, hml, hown, hts⟩ := id hI
  have hts : ∀ w ∈ aw, w.before ([.ref (ad 8), .int x] : List Value).toArray s = true := fun w h => hts w (List.mem_cons_of_mem _ h)
  have hown : s.vm.findClass "HeadDesk" = some m.cls := hown
  have hI : hx_In p s m ([.ref (ad 8), .int x] : List Value).toArray c b_Desk_told 2 "HeadDesk" aw := ⟨hx, hb, hml, hown, hts⟩
  have hP : va_P D vwCl (dkW ad cd d) s.heap := hP
  obtain ⟨H, hH⟩ : ∃ H, H = s.heap := ⟨_, rfl⟩
  obtain ⟨locs, hlo⟩ : ∃ locs : List Loc, locs = [] := ⟨_, rfl⟩
  have hS : va_S A s.heap H locs := by rw [hH, hlo]; exact hS
  have hP : va_P D vwCl (dkW ad cd d) H := by rw [hH]; exact hP
  have hl : lv_has ls 2 [(0, .ref (ad 8)), (1, .int x)] := hl
  have goal : W p l e (rmD 2) s m ([.ref (ad 8), .int x] : List Value).toArray below meth c H locs 0 0 Q (F0 m 0 ls []) := by
    refine lv_aload_n hx hb d_Desk_told_0 rfl (lv_at hl 0 rfl) ?_
    refine va_get (D := D) (ci := 3) (v := .int (dN d)) (C := "HeadDesk") (T := F_Desk) (N := 5) hx hb hts a_Desk hown hX.1 hP 0 rfl rfl 3 (by decide) (hts _ m_1_100) (fun _ h9 => h9) rfl d_Desk_told_1 ?_
    refine lv_if_ne (tgt := 11) hx hb d_Desk_told_4 (by decide) (fun c_4 => ?_) (fun c_4 => ?_)
    · skip
      have c_4 : ¬ (dN d = 0) := c_4
      refine lv_aload_n hx hb d_Desk_told_11 rfl (lv_at hl 0 rfl) ?_
      refine va_get (D := D) (ci := 3) (v := .ref (ad 9)) (C := "HeadDesk") (T := F_Desk) (N := 5) hx hb hts a_Desk hown hX.1 hP 0 rfl rfl 2 (by decide) (hts _ m_1_99) (fun _ h9 => h9) rfl d_Desk_told_12 ?_
      refine lv_iload_n hx hb d_Desk_told_15 rfl (lv_at hl 1 rfl) ?_
      refine hx_Vi (wr := [(ad 8, .inr (3, [.ref (ad 0), .ref (ad 1), .ref (ad 9), .int (dN d), .int (dL d)])), (ad 0, .inr (1, [.ref (ad 1), .ref (ad 3), .ref (ad 4), .ref (ad 5), .int (rNm (dS d)), .int (rKd (dS d)), .int (rPl (dS d)), .int (rSk (dS d)), .int (rNb (dS d)), .int (rWs (dS d)), .int (rWe (dS d))])), (ad 1, .inr (2, [.ref (ad 2), .int ((dT d).2)])), (ad 2, .inl (cd 0, 300, .inl ((dT d).1))), (ad 3, .inl (cd 1, 100, .inl (rNs (dS d)))), (ad 4, .inl (cd 2, 100, .inl (rNe (dS d)))), (ad 5, .inr (0, [.ref (ad 6), .ref (ad 7)])), (ad 6, .inl (cd 3, 18, .inl (rVs (dS d)))), (ad 7, .inl (cd 4, 8, .inl (rVr (dS d))))]) (As := [.int x]) (rest := []) hI (c_Head_get (ah := ad 9) (av := ad 10) (ar := ad 11) (cv := cd 5) (cr := cd 6) (tv := 5) (tr := 6) rfl rfl (dG d) x) (cw_V (C := "HeadDesk$Head") 1 hts m_1_135 m_1_136 m_1_137 m_1_4 m_1_138 (by decide +kernel) ⟨by decide, by decide⟩) hX hA hP hD hS [9, 10, 11] [0, 1, 2, 3, 4, 5, 6, 7, 8] rfl rfl (by decide) (by decide) (by decide) (va_recv hX.1 hP (ci := 0) (q0 := 9) rfl rfl) rfl hl.1 rfl (Nat.le_of_ble_eq_true rfl) d_Desk_told_16 ⟨Nat.zero_le _, Nat.zero_le _⟩ (fun H locs hP hD hS => ?_)
      have hP : va_P D vwCl (dkW ad cd d) H := hP.sub [0, 1, 2, 3, 4, 5, 6, 7, 8, 9, 10, 11] rfl
      have hD : va_D A (dkW ad cd d) := hD.sub [0, 1, 2, 3, 4, 5, 6, 7, 8, 9, 10, 11] (by decide) rfl
      exact hret H locs d (hGet ((dG d).1) x) _ _ hP hD hS ⟨(by first | (simp only [fTold, if_neg c_4, fStop, if_true, if_false, Bool.false_eq_true, ↓reduceIte]; done) | (simp only [fTold, if_neg c_4, fStop, if_true, if_false, Bool.false_eq_true, ↓reduceIte]; with_reducible rfl)), rfl⟩ d_Desk_told_19
    · skip
      have c_4 : (dN d = 0) := c_4
      refine lv_iconst (v := (-1)) hx hb d_Desk_told_7 (by decide) ?_
      refine lv_goto (tgt := 19) hx hb d_Desk_told_8 (by decide) ?_
      exact hret H locs d (-1) _ _ hP hD hS ⟨(by first | (simp only [fTold, if_pos c_4, fStop, if_true, if_false, Bool.false_eq_true, ↓reduceIte]; done) | (simp only [fTold, if_pos c_4, fStop, if_true, if_false, Bool.false_eq_true, ↓reduceIte]; with_reducible rfl)), rfl⟩ d_Desk_told_19
  rw [hH, hlo] at goal
  exact goal
set_option maxHeartbeats 4000000 in
set_option maxRecDepth 100000 in
theorem c_Desk_matches (d : DS) (x : Int32) : hx_Mz l D (tyH cd) adK adV tF (dkW ad cd) y_Desk_matches w_Desk_matches (rmD 3) [.ref (ad 8), .int x] d (fMat d x) d := by
  refine hx_Mz.of (cc := b_Desk_matches) (maxL := 2) (by decide) rfl (Nat.le_of_ble_eq_true rfl) ?_
  intro p e s m below meth c A Q ls hI hX hA hP hD hS hl hret
  obtain ⟨hx, hb, hml, hown, hts⟩ := id hI
  have hts : ∀ w ∈ aw, w.before ([.ref (ad 8), .int x] : List Value).toArray s = true := fun w h => hts w (List.mem_cons_of_mem _ h)
  have hown : s.vm.findClass "HeadDesk" = some m.cls := hown
  have hI : hx_In p s m ([.ref (ad 8), .int x] : List Value).toArray c b_Desk_matches 2 "HeadDesk" aw := ⟨hx, hb, hml, hown, hts⟩
  have hP : va_P D vwCl (dkW ad cd d) s.heap := hP
  obtain ⟨H, hH⟩ : ∃ H, H = s.heap := ⟨_, rfl⟩
  obtain ⟨locs, hlo⟩ : ∃ locs : List Loc, locs = [] := ⟨_, rfl⟩
  have hS : va_S A s.heap H locs := by rw [hH, hlo]; exact hS
  have hP : va_P D vwCl (dkW ad cd d) H := by rw [hH]; exact hP
  have hl : lv_has ls 2 [(0, .ref (ad 8)), (1, .int x)] := hl
  have goal : W p l e (rmD 3) s m ([.ref (ad 8), .int x] : List Value).toArray below meth c H locs 0 0 Q (F0 m 0 ls []) := by
    refine lv_aload_n hx hb d_Desk_matches_0 rfl (lv_at hl 0 rfl) ?_
    refine va_get (D := D) (ci := 3) (v := .int (dN d)) (C := "HeadDesk") (T := F_Desk) (N := 5) hx hb hts a_Desk hown hX.1 hP 0 rfl rfl 3 (by decide) (hts _ m_1_100) (fun _ h9 => h9) rfl d_Desk_matches_1 ?_
    refine lv_if_le (tgt := 22) hx hb d_Desk_matches_4 (by decide) (fun c_4 => ?_) (fun c_4 => ?_)
    · skip
      have c_4 : (dN d ≤ 0) := c_4
      refine lv_iconst (v := 0) hx hb d_Desk_matches_22 (by decide) ?_
      exact hret H locs d false _ _ hP hD hS ⟨(by first | (simp only [fMat, if_pos c_4, fStop, if_true, if_false, Bool.false_eq_true, ↓reduceIte]; done) | (simp only [fMat, if_pos c_4, fStop, if_true, if_false, Bool.false_eq_true, ↓reduceIte]; with_reducible rfl)), rfl⟩ d_Desk_matches_23
    · skip
      have c_4 : ¬ (dN d ≤ 0) := c_4
      refine lv_aload_n hx hb d_Desk_matches_7 rfl (lv_at hl 0 rfl) ?_
      refine va_get (D := D) (ci := 3) (v := .ref (ad 9)) (C := "HeadDesk") (T := F_Desk) (N := 5) hx hb hts a_Desk hown hX.1 hP 0 rfl rfl 2 (by decide) (hts _ m_1_99) (fun _ h9 => h9) rfl d_Desk_matches_8 ?_
      refine lv_iload_n hx hb d_Desk_matches_11 rfl (lv_at hl 1 rfl) ?_
      refine hx_Vz (wr := [(ad 8, .inr (3, [.ref (ad 0), .ref (ad 1), .ref (ad 9), .int (dN d), .int (dL d)])), (ad 0, .inr (1, [.ref (ad 1), .ref (ad 3), .ref (ad 4), .ref (ad 5), .int (rNm (dS d)), .int (rKd (dS d)), .int (rPl (dS d)), .int (rSk (dS d)), .int (rNb (dS d)), .int (rWs (dS d)), .int (rWe (dS d))])), (ad 1, .inr (2, [.ref (ad 2), .int ((dT d).2)])), (ad 2, .inl (cd 0, 300, .inl ((dT d).1))), (ad 3, .inl (cd 1, 100, .inl (rNs (dS d)))), (ad 4, .inl (cd 2, 100, .inl (rNe (dS d)))), (ad 5, .inr (0, [.ref (ad 6), .ref (ad 7)])), (ad 6, .inl (cd 3, 18, .inl (rVs (dS d)))), (ad 7, .inl (cd 4, 8, .inl (rVr (dS d))))]) (As := [.int x]) (rest := []) hI (c_Head_coversVersion (ah := ad 9) (av := ad 10) (ar := ad 11) (cv := cd 5) (cr := cd 6) (tv := 5) (tr := 6) rfl rfl (dG d) x) (cw_V (C := "HeadDesk$Head") 1 hts m_1_143 m_1_144 m_1_145 m_1_4 m_1_146 (by decide +kernel) ⟨by decide, by decide⟩) hX hA hP hD hS [9, 10, 11] [0, 1, 2, 3, 4, 5, 6, 7, 8] rfl rfl (by decide) (by decide) (by decide) (va_recv hX.1 hP (ci := 0) (q0 := 9) rfl rfl) rfl hl.1 rfl (Nat.le_of_ble_eq_true rfl) d_Desk_matches_12 ⟨Nat.zero_le _, Nat.zero_le _⟩ (fun H locs hP hD hS => ?_)
      have hP : va_P D vwCl (dkW ad cd d) H := hP.sub [0, 1, 2, 3, 4, 5, 6, 7, 8, 9, 10, 11] rfl
      have hD : va_D A (dkW ad cd d) := hD.sub [0, 1, 2, 3, 4, 5, 6, 7, 8, 9, 10, 11] (by decide) rfl
      refine lv_if_eq (tgt := 22) hx hb d_Desk_matches_15 (by decide) (fun c_15 => ?_) (fun c_15 => ?_)
      · skip
        have c_15 : (hCov ((dG d).1) ((dG d).2) x) = false := bI_0 c_15
        refine lv_iconst (v := 0) hx hb d_Desk_matches_22 (by decide) ?_
        exact hret H locs d false _ _ hP hD hS ⟨(by first | (simp only [fMat, if_neg c_4, c_15, fStop, if_true, if_false, Bool.false_eq_true, ↓reduceIte]; done) | (simp only [fMat, if_neg c_4, c_15, fStop, if_true, if_false, Bool.false_eq_true, ↓reduceIte]; with_reducible rfl)), rfl⟩ d_Desk_matches_23
      · skip
        have c_15 : (hCov ((dG d).1) ((dG d).2) x) = true := bI_1 c_15
        refine lv_iconst (v := 1) hx hb d_Desk_matches_18 (by decide) ?_
        refine lv_goto (tgt := 23) hx hb d_Desk_matches_19 (by decide) ?_
        exact hret H locs d true _ _ hP hD hS ⟨(by first | (simp only [fMat, if_neg c_4, c_15, fStop, if_true, if_false, Bool.false_eq_true, ↓reduceIte]; done) | (simp only [fMat, if_neg c_4, c_15, fStop, if_true, if_false, Bool.false_eq_true, ↓reduceIte]; with_reducible rfl)), rfl⟩ d_Desk_matches_23
  rw [hH, hlo] at goal
  exact goal
set_option maxHeartbeats 4000000 in
set_option maxRecDepth 100000 in
theorem c_Desk_bytes (d : DS) (x : Int32) (z : Int32) : hx_Mi l D (tyH cd) adK adV tF (dkW ad cd) y_Desk_bytes w_Desk_bytes (rmD 3) [.ref (ad 8), .int x, .int z] d (fByt d x z) d := by
  refine hx_Mi.of (cc := b_Desk_bytes) (maxL := 6) rfl (by decide) rfl (Nat.le_of_ble_eq_true rfl) ?_
  intro p e s m below meth c A Q ls hI hX hA hP hD hS hl hret
  obtain ⟨hx, hb, hml, hown, hts⟩ := id hI
  have hts : ∀ w ∈ aw, w.before ([.ref (ad 8), .int x, .int z] : List Value).toArray s = true := fun w h => hts w (List.mem_cons_of_mem _ h)
  have hown : s.vm.findClass "HeadDesk" = some m.cls := hown
  have hI : hx_In p s m ([.ref (ad 8), .int x, .int z] : List Value).toArray c b_Desk_bytes 6 "HeadDesk" aw := ⟨hx, hb, hml, hown, hts⟩
  have hP : va_P D vwCl (dkW ad cd d) s.heap := hP
  obtain ⟨H, hH⟩ : ∃ H, H = s.heap := ⟨_, rfl⟩
  obtain ⟨locs, hlo⟩ : ∃ locs : List Loc, locs = [] := ⟨_, rfl⟩
  have hS : va_S A s.heap H locs := by rw [hH, hlo]; exact hS
  have hP : va_P D vwCl (dkW ad cd d) H := by rw [hH]; exact hP
  have hl : lv_has ls 6 [(0, .ref (ad 8)), (1, .int x), (2, .int z)] := hl
  have goal : W p l e (rmD 3) s m ([.ref (ad 8), .int x, .int z] : List Value).toArray below meth c H locs 0 0 Q (F0 m 0 ls []) := by
    refine lv_aload_n hx hb d_Desk_bytes_0 rfl (lv_at hl 0 rfl) ?_
    refine va_get (D := D) (ci := 3) (v := .int (dN d)) (C := "HeadDesk") (T := F_Desk) (N := 5) hx hb hts a_Desk hown hX.1 hP 0 rfl rfl 3 (by decide) (hts _ m_1_100) (fun _ h9 => h9) rfl d_Desk_bytes_1 ?_
    refine lv_if_eq (tgt := 18) hx hb d_Desk_bytes_4 (by decide) (fun c_4 => ?_) (fun c_4 => ?_)
    · skip
      have c_4 : (dN d = 0) := c_4
      refine lv_iconst (v := (-1)) hx hb d_Desk_bytes_18 (by decide) ?_
      exact hret H locs d (-1) _ _ hP hD hS ⟨(by first | (simp only [fByt, if_pos c_4, fStop, if_true, if_false, Bool.false_eq_true, ↓reduceIte]; done) | (simp only [fByt, if_pos c_4, fStop, if_true, if_false, Bool.false_eq_true, ↓reduceIte]; with_reducible rfl)), rfl⟩ d_Desk_bytes_19
    · skip
      have c_4 : ¬ (dN d = 0) := c_4
      refine lv_iload_n hx hb d_Desk_bytes_7 rfl (lv_at hl 1 rfl) ?_
      refine lv_if_lt (tgt := 18) hx hb d_Desk_bytes_8 (by decide) (fun c_8 => ?_) (fun c_8 => ?_)
      · skip
        have c_8 : (x < 0) := c_8
        refine lv_iconst (v := (-1)) hx hb d_Desk_bytes_18 (by decide) ?_
        exact hret H locs d (-1) _ _ hP hD hS ⟨(by first | (simp only [fByt, if_neg c_4, if_pos c_8, fStop, if_true, if_false, Bool.false_eq_true, ↓reduceIte]; done) | (simp only [fByt, if_neg c_4, if_pos c_8, fStop, if_true, if_false, Bool.false_eq_true, ↓reduceIte]; with_reducible rfl)), rfl⟩ d_Desk_bytes_19
      · skip
        have c_8 : ¬ (x < 0) := c_8
        refine lv_iload_n hx hb d_Desk_bytes_11 rfl (lv_at hl 1 rfl) ?_
        refine lv_sipush (v := 255) hx hb d_Desk_bytes_12 (by decide) ?_
        refine lv_icmp_le (tgt := 20) hx hb d_Desk_bytes_15 (by decide) (fun c_15 => ?_) (fun c_15 => ?_)
        · skip
          have c_15 : (x ≤ 255) := c_15
          refine lv_aload_n hx hb d_Desk_bytes_20 rfl (lv_at hl 0 rfl) ?_
          refine va_get (D := D) (ci := 3) (v := .ref (ad 9)) (C := "HeadDesk") (T := F_Desk) (N := 5) hx hb hts a_Desk hown hX.1 hP 0 rfl rfl 2 (by decide) (hts _ m_1_99) (fun _ h9 => h9) rfl d_Desk_bytes_21 ?_
          refine lv_iload_n hx hb d_Desk_bytes_24 rfl (lv_at hl 1 rfl) ?_
          refine hx_Vi (wr := [(ad 8, .inr (3, [.ref (ad 0), .ref (ad 1), .ref (ad 9), .int (dN d), .int (dL d)])), (ad 0, .inr (1, [.ref (ad 1), .ref (ad 3), .ref (ad 4), .ref (ad 5), .int (rNm (dS d)), .int (rKd (dS d)), .int (rPl (dS d)), .int (rSk (dS d)), .int (rNb (dS d)), .int (rWs (dS d)), .int (rWe (dS d))])), (ad 1, .inr (2, [.ref (ad 2), .int ((dT d).2)])), (ad 2, .inl (cd 0, 300, .inl ((dT d).1))), (ad 3, .inl (cd 1, 100, .inl (rNs (dS d)))), (ad 4, .inl (cd 2, 100, .inl (rNe (dS d)))), (ad 5, .inr (0, [.ref (ad 6), .ref (ad 7)])), (ad 6, .inl (cd 3, 18, .inl (rVs (dS d)))), (ad 7, .inl (cd 4, 8, .inl (rVr (dS d))))]) (As := [.int x]) (rest := []) hI (c_Head_firstByte (ah := ad 9) (av := ad 10) (ar := ad 11) (cv := cd 5) (cr := cd 6) (tv := 5) (tr := 6) rfl rfl (dG d) x) (cw_V (C := "HeadDesk$Head") 1 hts m_1_155 m_1_156 m_1_157 m_1_4 m_1_158 (by decide +kernel) ⟨by decide, by decide⟩) hX hA hP hD hS [9, 10, 11] [0, 1, 2, 3, 4, 5, 6, 7, 8] rfl rfl (by decide) (by decide) (by decide) (va_recv hX.1 hP (ci := 0) (q0 := 9) rfl rfl) rfl hl.1 rfl (Nat.le_of_ble_eq_true rfl) d_Desk_bytes_25 ⟨Nat.zero_le _, Nat.zero_le _⟩ (fun H locs hP hD hS => ?_)
          have hP : va_P D vwCl (dkW ad cd d) H := hP.sub [0, 1, 2, 3, 4, 5, 6, 7, 8, 9, 10, 11] rfl
          have hD : va_D A (dkW ad cd d) := hD.sub [0, 1, 2, 3, 4, 5, 6, 7, 8, 9, 10, 11] (by decide) rfl
          refine lv_istore_n (lv' := [(3, .int (hFst ((dG d).1) x)), (0, .ref (ad 8)), (1, .int x), (2, .int z)]) hx hb d_Desk_bytes_28 rfl hl (by decide) rfl (fun ls hl => ?_)
          refine lv_aload_n hx hb d_Desk_bytes_29 rfl (lv_at hl 1 rfl) ?_
          refine va_get (D := D) (ci := 3) (v := .ref (ad 9)) (C := "HeadDesk") (T := F_Desk) (N := 5) hx hb hts a_Desk hown hX.1 hP 0 rfl rfl 2 (by decide) (hts _ m_1_99) (fun _ h9 => h9) rfl d_Desk_bytes_30 ?_
          refine lv_iload_n hx hb d_Desk_bytes_33 rfl (lv_at hl 2 rfl) ?_
          refine hx_Vi (wr := [(ad 8, .inr (3, [.ref (ad 0), .ref (ad 1), .ref (ad 9), .int (dN d), .int (dL d)])), (ad 0, .inr (1, [.ref (ad 1), .ref (ad 3), .ref (ad 4), .ref (ad 5), .int (rNm (dS d)), .int (rKd (dS d)), .int (rPl (dS d)), .int (rSk (dS d)), .int (rNb (dS d)), .int (rWs (dS d)), .int (rWe (dS d))])), (ad 1, .inr (2, [.ref (ad 2), .int ((dT d).2)])), (ad 2, .inl (cd 0, 300, .inl ((dT d).1))), (ad 3, .inl (cd 1, 100, .inl (rNs (dS d)))), (ad 4, .inl (cd 2, 100, .inl (rNe (dS d)))), (ad 5, .inr (0, [.ref (ad 6), .ref (ad 7)])), (ad 6, .inl (cd 3, 18, .inl (rVs (dS d)))), (ad 7, .inl (cd 4, 8, .inl (rVr (dS d))))]) (As := [.int x]) (rest := []) hI (c_Head_lastByte (ah := ad 9) (av := ad 10) (ar := ad 11) (cv := cd 5) (cr := cd 6) (tv := 5) (tr := 6) rfl rfl (dG d) x) (cw_V (C := "HeadDesk$Head") 1 hts m_1_162 m_1_163 m_1_164 m_1_4 m_1_165 (by decide +kernel) ⟨by decide, by decide⟩) hX hA hP hD hS [9, 10, 11] [0, 1, 2, 3, 4, 5, 6, 7, 8] rfl rfl (by decide) (by decide) (by decide) (va_recv hX.1 hP (ci := 0) (q0 := 9) rfl rfl) rfl hl.1 rfl (Nat.le_of_ble_eq_true rfl) d_Desk_bytes_34 ⟨Nat.zero_le _, Nat.zero_le _⟩ (fun H locs hP hD hS => ?_)
          have hP : va_P D vwCl (dkW ad cd d) H := hP.sub [0, 1, 2, 3, 4, 5, 6, 7, 8, 9, 10, 11] rfl
          have hD : va_D A (dkW ad cd d) := hD.sub [0, 1, 2, 3, 4, 5, 6, 7, 8, 9, 10, 11] (by decide) rfl
          refine lv_istore (lv' := [(4, .int (hLst ((dG d).1) x)), (3, .int (hFst ((dG d).1) x)), (0, .ref (ad 8)), (1, .int x), (2, .int z)]) hx hb d_Desk_bytes_37 hl (by decide) rfl (fun ls hl => ?_)
          refine lv_iconst (v := 0) hx hb d_Desk_bytes_39 (by decide) ?_
          refine lv_iload hx hb d_Desk_bytes_40 (lv_at hl 0 rfl) ?_
          refine lv_iload_n hx hb d_Desk_bytes_42 rfl (lv_at hl 1 rfl) ?_
          refine lv_isub hx hb d_Desk_bytes_43 ?_
          refine lv_iconst (v := 1) hx hb d_Desk_bytes_44 (by decide) ?_
          refine lv_iadd hx hb d_Desk_bytes_45 ?_
          refine va_mmax hx hb (hml.trans hl.1.symm) hown (hts _ m_1_166) (hts _ m_1_167) (hts _ m_1_15) (hts _ m_1_168) (by decide) (Nat.le_of_ble_eq_true rfl) (Nat.zero_le _) (Nat.zero_le _) d_Desk_bytes_46 ?_
          refine hx_top (v := iMax 0 (((hLst ((dG d).1) x) - (hFst ((dG d).1) x)) + 1)) rfl ?_
          refine lv_istore (lv' := [(5, .int (iMax 0 (((hLst ((dG d).1) x) - (hFst ((dG d).1) x)) + 1))), (4, .int (hLst ((dG d).1) x)), (3, .int (hFst ((dG d).1) x)), (0, .ref (ad 8)), (1, .int x), (2, .int z)]) hx hb d_Desk_bytes_49 hl (by decide) rfl (fun ls hl => ?_)
          refine lv_iload_n hx hb d_Desk_bytes_51 rfl (lv_at hl 5 rfl) ?_
          by_cases h_52_0 : z = 0
          · refine hx_top h_52_0 ?_
            refine lv_tableIn (off := 28) (tgt := 80) hx hb d_Desk_bytes_52 (by decide) (by decide) rfl (by decide) ?_
            refine lv_iload hx hb d_Desk_bytes_80 (lv_at hl 0 rfl) ?_
            refine lv_if_ne (tgt := 89) hx hb d_Desk_bytes_82 (by decide) (fun c_82 => ?_) (fun c_82 => ?_)
            · skip
              have c_82 : ¬ (iMax 0 (((hLst ((dG d).1) x) - (hFst ((dG d).1) x)) + 1) = 0) := c_82
              refine lv_iload_n hx hb d_Desk_bytes_89 rfl (lv_at hl 2 rfl) ?_
              exact hret H locs d (hFst ((dG d).1) x) _ _ hP hD hS ⟨(by first | (simp only [fByt, if_neg c_4, if_neg c_8, if_pos c_15, if_pos h_52_0, if_neg c_82, fStop, if_true, if_false, Bool.false_eq_true, ↓reduceIte]; done) | (simp only [fByt, if_neg c_4, if_neg c_8, if_pos c_15, if_pos h_52_0, if_neg c_82, fStop, if_true, if_false, Bool.false_eq_true, ↓reduceIte]; with_reducible rfl)), rfl⟩ d_Desk_bytes_90
            · skip
              have c_82 : (iMax 0 (((hLst ((dG d).1) x) - (hFst ((dG d).1) x)) + 1) = 0) := c_82
              refine lv_iconst (v := (-1)) hx hb d_Desk_bytes_85 (by decide) ?_
              refine lv_goto (tgt := 90) hx hb d_Desk_bytes_86 (by decide) ?_
              exact hret H locs d (-1) _ _ hP hD hS ⟨(by first | (simp only [fByt, if_neg c_4, if_neg c_8, if_pos c_15, if_pos h_52_0, if_pos c_82, fStop, if_true, if_false, Bool.false_eq_true, ↓reduceIte]; done) | (simp only [fByt, if_neg c_4, if_neg c_8, if_pos c_15, if_pos h_52_0, if_pos c_82, fStop, if_true, if_false, Bool.false_eq_true, ↓reduceIte]; with_reducible rfl)), rfl⟩ d_Desk_bytes_90
          by_cases h_52_1 : z = 1
          · refine hx_top h_52_1 ?_
            refine lv_tableIn (off := 39) (tgt := 91) hx hb d_Desk_bytes_52 (by decide) (by decide) rfl (by decide) ?_
            refine lv_iload hx hb d_Desk_bytes_91 (lv_at hl 0 rfl) ?_
            refine lv_if_ne (tgt := 100) hx hb d_Desk_bytes_93 (by decide) (fun c_93 => ?_) (fun c_93 => ?_)
            · skip
              have c_93 : ¬ (iMax 0 (((hLst ((dG d).1) x) - (hFst ((dG d).1) x)) + 1) = 0) := c_93
              refine lv_iload hx hb d_Desk_bytes_100 (lv_at hl 1 rfl) ?_
              exact hret H locs d (hLst ((dG d).1) x) _ _ hP hD hS ⟨(by first | (simp only [fByt, if_neg c_4, if_neg c_8, if_pos c_15, if_neg h_52_0, if_pos h_52_1, if_neg c_93, fStop, if_true, if_false, Bool.false_eq_true, ↓reduceIte]; done) | (simp only [fByt, if_neg c_4, if_neg c_8, if_pos c_15, if_neg h_52_0, if_pos h_52_1, if_neg c_93, fStop, if_true, if_false, Bool.false_eq_true, ↓reduceIte]; with_reducible rfl)), rfl⟩ d_Desk_bytes_102
            · skip
              have c_93 : (iMax 0 (((hLst ((dG d).1) x) - (hFst ((dG d).1) x)) + 1) = 0) := c_93
              refine lv_iconst (v := (-1)) hx hb d_Desk_bytes_96 (by decide) ?_
              refine lv_goto (tgt := 102) hx hb d_Desk_bytes_97 (by decide) ?_
              exact hret H locs d (-1) _ _ hP hD hS ⟨(by first | (simp only [fByt, if_neg c_4, if_neg c_8, if_pos c_15, if_neg h_52_0, if_pos h_52_1, if_pos c_93, fStop, if_true, if_false, Bool.false_eq_true, ↓reduceIte]; done) | (simp only [fByt, if_neg c_4, if_neg c_8, if_pos c_15, if_neg h_52_0, if_pos h_52_1, if_pos c_93, fStop, if_true, if_false, Bool.false_eq_true, ↓reduceIte]; with_reducible rfl)), rfl⟩ d_Desk_bytes_102
          by_cases h_52_2 : z = 2
          · refine hx_top h_52_2 ?_
            refine lv_tableIn (off := 51) (tgt := 103) hx hb d_Desk_bytes_52 (by decide) (by decide) rfl (by decide) ?_
            refine lv_iload hx hb d_Desk_bytes_103 (lv_at hl 0 rfl) ?_
            exact hret H locs d (iMax 0 (((hLst ((dG d).1) x) - (hFst ((dG d).1) x)) + 1)) _ _ hP hD hS ⟨(by first | (simp only [fByt, if_neg c_4, if_neg c_8, if_pos c_15, if_neg h_52_0, if_neg h_52_1, if_pos h_52_2, fStop, if_true, if_false, Bool.false_eq_true, ↓reduceIte]; done) | (simp only [fByt, if_neg c_4, if_neg c_8, if_pos c_15, if_neg h_52_0, if_neg h_52_1, if_pos h_52_2, fStop, if_true, if_false, Bool.false_eq_true, ↓reduceIte]; with_reducible rfl)), rfl⟩ d_Desk_bytes_105
          refine lv_tableOut (tgt := 106) hx hb d_Desk_bytes_52 (tb02 h_52_0 h_52_1 h_52_2) (by decide) ?_
          refine lv_iconst (v := (-1)) hx hb d_Desk_bytes_106 (by decide) ?_
          exact hret H locs d (-1) _ _ hP hD hS ⟨(by first | (simp only [fByt, if_neg c_4, if_neg c_8, if_pos c_15, if_neg h_52_0, if_neg h_52_1, if_neg h_52_2, fStop, if_true, if_false, Bool.false_eq_true, ↓reduceIte]; done) | (simp only [fByt, if_neg c_4, if_neg c_8, if_pos c_15, if_neg h_52_0, if_neg h_52_1, if_neg h_52_2, fStop, if_true, if_false, Bool.false_eq_true, ↓reduceIte]; with_reducible rfl)), rfl⟩ d_Desk_bytes_107
        · skip
          have c_15 : ¬ (x ≤ 255) := c_15
          refine lv_iconst (v := (-1)) hx hb d_Desk_bytes_18 (by decide) ?_
          exact hret H locs d (-1) _ _ hP hD hS ⟨(by first | (simp only [fByt, if_neg c_4, if_neg c_8, if_neg c_15, fStop, if_true, if_false, Bool.false_eq_true, ↓reduceIte]; done) | (simp only [fByt, if_neg c_4, if_neg c_8, if_neg c_15, fStop, if_true, if_false, Bool.false_eq_true, ↓reduceIte]; with_reducible rfl)), rfl⟩ d_Desk_bytes_19
  rw [hH, hlo] at goal
  exact goal
set_option maxHeartbeats 4000000 in
set_option maxRecDepth 100000 in
theorem c_Desk_type (d : DS) (hT : (dT d).2 ≤ 300) (hT0 : 0 ≤ (dT d).2) (q : Int64) (x : Int32) : hx_Mz l D (tyH cd) adK adV tF (dkW ad cd) y_Desk_type w_Desk_type (rmD 3) [.ref (ad 8), .long q, .int x] d ((fApp (dT d) q x).1) (uT d (fApp (dT d) q x).2) := by
  refine hx_Mz.of (cc := b_Desk_type) (maxL := 4) (by decide) rfl (Nat.le_of_ble_eq_true rfl) ?_
  intro p e s m below meth c A Q ls hI hX hA hP hD hS hl hret
  obtain ⟨hx, hb, hml, hown, hts⟩ := id hI
  have hts : ∀ w ∈ aw, w.before ([.ref (ad 8), .long q, .int x] : List Value).toArray s = true := fun w h => hts w (List.mem_cons_of_mem _ h)
  have hown : s.vm.findClass "HeadDesk" = some m.cls := hown
  have hI : hx_In p s m ([.ref (ad 8), .long q, .int x] : List Value).toArray c b_Desk_type 4 "HeadDesk" aw := ⟨hx, hb, hml, hown, hts⟩
  have hP : va_P D vwCl (dkW ad cd d) s.heap := hP
  obtain ⟨H, hH⟩ : ∃ H, H = s.heap := ⟨_, rfl⟩
  obtain ⟨locs, hlo⟩ : ∃ locs : List Loc, locs = [] := ⟨_, rfl⟩
  have hS : va_S A s.heap H locs := by rw [hH, hlo]; exact hS
  have hP : va_P D vwCl (dkW ad cd d) H := by rw [hH]; exact hP
  have hl : lv_has ls 4 [(0, .ref (ad 8)), (1, .long q), (3, .int x)] := hl
  have goal : W p l e (rmD 3) s m ([.ref (ad 8), .long q, .int x] : List Value).toArray below meth c H locs 0 0 Q (F0 m 0 ls []) := by
    refine lv_aload_n hx hb d_Desk_type_0 rfl (lv_at hl 0 rfl) ?_
    refine va_get (D := D) (ci := 3) (v := .ref (ad 1)) (C := "HeadDesk") (T := F_Desk) (N := 5) hx hb hts a_Desk hown hX.1 hP 0 rfl rfl 1 (by decide) (hts _ m_1_98) (fun _ h9 => h9) rfl d_Desk_type_1 ?_
    refine lv_lload_n hx hb d_Desk_type_4 rfl (lv_at hl 1 rfl) ?_
    refine lv_iload_n hx hb d_Desk_type_5 rfl (lv_at hl 2 rfl) ?_
    refine hx_Vz (wr := [(ad 8, .inr (3, [.ref (ad 0), .ref (ad 1), .ref (ad 9), .int (dN d), .int (dL d)])), (ad 0, .inr (1, [.ref (ad 1), .ref (ad 3), .ref (ad 4), .ref (ad 5), .int (rNm (dS d)), .int (rKd (dS d)), .int (rPl (dS d)), .int (rSk (dS d)), .int (rNb (dS d)), .int (rWs (dS d)), .int (rWe (dS d))])), (ad 3, .inl (cd 1, 100, .inl (rNs (dS d)))), (ad 4, .inl (cd 2, 100, .inl (rNe (dS d)))), (ad 5, .inr (0, [.ref (ad 6), .ref (ad 7)])), (ad 6, .inl (cd 3, 18, .inl (rVs (dS d)))), (ad 7, .inl (cd 4, 8, .inl (rVr (dS d)))), (ad 9, .inr (0, [.ref (ad 10), .ref (ad 11)])), (ad 10, .inl (cd 5, 18, .inl ((dG d).1))), (ad 11, .inl (cd 6, 8, .inl ((dG d).2)))]) (As := [.long q, .int x]) (rest := []) hI (c_Tape_append hT hT0 q x) (cw_V (C := "HeadDesk$Tape") 2 hts m_1_117 m_1_118 m_1_119 m_1_3 m_1_120 (by decide +kernel) ⟨by decide, by decide⟩) hX hA hP hD hS [2, 3] [0, 1, 4, 5, 6, 7, 8, 9, 10, 11] rfl rfl (by decide) (by decide) (by decide) (va_recv hX.1 hP (ci := 2) (q0 := 2) rfl rfl) rfl hl.1 rfl (Nat.le_of_ble_eq_true rfl) d_Desk_type_6 ⟨Nat.zero_le _, Nat.zero_le _⟩ (fun H locs hP hD hS => ?_)
    have hP : va_P D vwCl (dkW ad cd (uT d (fApp (dT d) q x).2)) H := hP.sub [0, 1, 10, 11, 2, 3, 4, 5, 6, 7, 8, 9] rfl
    have hD : va_D A (dkW ad cd (uT d (fApp (dT d) q x).2)) := hD.sub [0, 1, 10, 11, 2, 3, 4, 5, 6, 7, 8, 9] (by decide) rfl
    exact hret H locs (uT d (fApp (dT d) q x).2) ((fApp (dT d) q x).1) _ _ hP hD hS ⟨rfl, by first | rfl | exact e_6.symm⟩ d_Desk_type_9
  rw [hH, hlo] at goal
  exact goal
