variable {l : Launch} {D : va_G} {ad : Nat → Nat} {cd : Nat → ClassId} {adK adV : Nat → Nat} {tF : Nat} {T : TX} {tys : List (ClassId × FieldType)}

set_option maxHeartbeats 4000000 in
set_option maxRecDepth 100000 in
theorem c_Reader_mark (hT : T.2 ≤ 300) (st : RS)  : hx_Mi l D (tyH cd) adK adV tF (rdW ad cd T) y_Reader_mark w_Reader_mark (rmD 2) [.ref (ad 0)] st (fMark T st) st := by
  refine hx_Mi.of (cc := b_Reader_mark) (maxL := 1) rfl (by decide) rfl (Nat.le_of_ble_eq_true rfl) ?_
  intro p e s m below meth c A Q ls hI hX hA hP hD hS hl hret
  obtain ⟨hx, hb, hml, hown, hts⟩ := id hI
  have hts : ∀ w ∈ aw, w.before ([.ref (ad 0)] : List Value).toArray s = true := fun w h => hts w (List.mem_cons_of_mem _ h)
  have hown : s.vm.findClass "HeadDesk$Reader" = some m.cls := hown
  have hI : hx_In p s m ([.ref (ad 0)] : List Value).toArray c b_Reader_mark 1 "HeadDesk$Reader" aw := ⟨hx, hb, hml, hown, hts⟩
  have hP : va_P D vwCl (rdW ad cd T st) s.heap := hP
  obtain ⟨H, hH⟩ : ∃ H, H = s.heap := ⟨_, rfl⟩
  obtain ⟨locs, hlo⟩ : ∃ locs : List Loc, locs = [] := ⟨_, rfl⟩
  have hS : va_S A s.heap H locs := by rw [hH, hlo]; exact hS
  have hP : va_P D vwCl (rdW ad cd T st) H := by rw [hH]; exact hP
  have hl : lv_has ls 1 [(0, .ref (ad 0))] := hl
  have goal : W p l e (rmD 2) s m ([.ref (ad 0)] : List Value).toArray below meth c H locs 0 0 Q (F0 m 0 ls []) := by
    refine lv_aload_n hx hb d_Reader_mark_0 rfl (lv_at hl 0 rfl) ?_
    refine va_get (D := D) (ci := 1) (v := .ref (ad 1)) (C := "HeadDesk$Reader") (T := F_Reader) (N := 11) hx hb hts a_Reader hown hX.1 hP 0 rfl rfl 0 (by decide) (hts _ m_1_60) (fun _ h9 => h9) rfl d_Reader_mark_1 ?_
    refine lv_aload_n hx hb d_Reader_mark_4 rfl (lv_at hl 0 rfl) ?_
    refine va_get (D := D) (ci := 1) (v := .int (rPl st)) (C := "HeadDesk$Reader") (T := F_Reader) (N := 11) hx hb hts a_Reader hown hX.1 hP 0 rfl rfl 6 (by decide) (hts _ m_1_67) (fun _ h9 => h9) rfl d_Reader_mark_5 ?_
    refine hx_Vi (wr := [(ad 0, .inr (1, [.ref (ad 1), .ref (ad 3), .ref (ad 4), .ref (ad 5), .int (rNm st), .int (rKd st), .int (rPl st), .int (rSk st), .int (rNb st), .int (rWs st), .int (rWe st)])), (ad 3, .inl (cd 1, 100, .inl (rNs st))), (ad 4, .inl (cd 2, 100, .inl (rNe st))), (ad 5, .inr (0, [.ref (ad 6), .ref (ad 7)])), (ad 6, .inl (cd 3, 18, .inl (rVs st))), (ad 7, .inl (cd 4, 8, .inl (rVr st)))]) (As := [.int (rPl st)]) (rest := []) hI (c_Tape_markAt hT (rPl st)) (cw_V (C := "HeadDesk$Tape") 1 hts m_2_45 m_2_46 m_2_47 m_1_3 m_2_48 (by decide +kernel) ⟨by decide, by decide⟩) hX hA hP hD hS [1, 2] [0, 3, 4, 5, 6, 7] rfl rfl (by decide) (by decide) (by decide) (va_recv hX.1 hP (ci := 2) (q0 := 1) rfl rfl) rfl hl.1 rfl (Nat.le_of_ble_eq_true rfl) d_Reader_mark_8 ⟨Nat.zero_le _, Nat.zero_le _⟩ (fun H locs hP hD hS => ?_)
    have hP : va_P D vwCl (rdW ad cd T st) H := hP.sub [0, 6, 7, 1, 2, 3, 4, 5] rfl
    have hD : va_D A (rdW ad cd T st) := hD.sub [0, 6, 7, 1, 2, 3, 4, 5] (by decide) rfl
    exact hret H locs st (mAt T (rPl st)) _ _ hP hD hS ⟨(by first | (simp only [fMark, fStop, if_true, if_false, Bool.false_eq_true, ↓reduceIte]; done) | (simp only [fMark, fStop, if_true, if_false, Bool.false_eq_true, ↓reduceIte]; with_reducible rfl)), rfl⟩ d_Reader_mark_11
  rw [hH, hlo] at goal
  exact goal
set_option maxHeartbeats 4000000 in
set_option maxRecDepth 100000 in
theorem c_Reader_stop (hT : T.2 ≤ 300) (st : RS) (x : Int32) : hx_Mz l D (tyH cd) adK adV tF (rdW ad cd T) y_Reader_stop w_Reader_stop (rmD 1) [.ref (ad 0), .int x] st ((fStop st x).1) ((fStop st x).2) := by
  refine hx_Mz.of (cc := b_Reader_stop) (maxL := 2) (by decide) rfl (Nat.le_of_ble_eq_true rfl) ?_
  intro p e s m below meth c A Q ls hI hX hA hP hD hS hl hret
  obtain ⟨hx, hb, hml, hown, hts⟩ := id hI
  have hts : ∀ w ∈ aw, w.before ([.ref (ad 0), .int x] : List Value).toArray s = true := fun w h => hts w (List.mem_cons_of_mem _ h)
  have hown : s.vm.findClass "HeadDesk$Reader" = some m.cls := hown
  have hI : hx_In p s m ([.ref (ad 0), .int x] : List Value).toArray c b_Reader_stop 2 "HeadDesk$Reader" aw := ⟨hx, hb, hml, hown, hts⟩
  have hP : va_P D vwCl (rdW ad cd T st) s.heap := hP
  obtain ⟨H, hH⟩ : ∃ H, H = s.heap := ⟨_, rfl⟩
  obtain ⟨locs, hlo⟩ : ∃ locs : List Loc, locs = [] := ⟨_, rfl⟩
  have hS : va_S A s.heap H locs := by rw [hH, hlo]; exact hS
  have hP : va_P D vwCl (rdW ad cd T st) H := by rw [hH]; exact hP
  have hl : lv_has ls 2 [(0, .ref (ad 0)), (1, .int x)] := hl
  have goal : W p l e (rmD 1) s m ([.ref (ad 0), .int x] : List Value).toArray below meth c H locs 0 0 Q (F0 m 0 ls []) := by
    refine lv_aload_n hx hb d_Reader_stop_0 rfl (lv_at hl 0 rfl) ?_
    refine lv_iload_n hx hb d_Reader_stop_1 rfl (lv_at hl 1 rfl) ?_
    refine va_put (D := D) (ci := 1) (v := .int x) (ty := .int) (C := "HeadDesk$Reader") (T := F_Reader) (N := 11) hx hb hts a_Reader t_Reader k_Reader n_Reader hown hX.1 hP hD hS 0 rfl rfl 7 (by decide) (hts _ m_1_68) (fun _ h9 => h9) rfl (by decide +kernel) rfl rfl (Nat.le_of_ble_eq_true rfl) d_Reader_stop_2 (fun H locs hP hD hS => ?_)
    have hP : va_P D vwCl (rdW ad cd T (sSk st x)) H := hP
    have hD : va_D A (rdW ad cd T (sSk st x)) := hD
    refine lv_iconst (v := 0) hx hb d_Reader_stop_5 (by decide) ?_
    exact hret H locs (sSk st x) false _ _ hP hD hS (pr2 (by first | (simp only [fStop, fStop, if_true, if_false, Bool.false_eq_true, ↓reduceIte]; done) | (simp only [fStop, fStop, if_true, if_false, Bool.false_eq_true, ↓reduceIte]; with_reducible rfl))) d_Reader_stop_6
  rw [hH, hlo] at goal
  exact goal
set_option maxHeartbeats 4000000 in
set_option maxRecDepth 100000 in
theorem c_Reader_skip (hT : T.2 ≤ 300) (st : RS) (x : Int32) : hx_Mz l D (tyH cd) adK adV tF (rdW ad cd T) y_Reader_skip w_Reader_skip (rmD 3) [.ref (ad 0), .int x] st ((fSkip T st x).1) ((fSkip T st x).2) := by
  refine hx_Mz.of (cc := b_Reader_skip) (maxL := 2) (by decide) rfl (Nat.le_of_ble_eq_true rfl) ?_
  intro p e s m below meth c A Q ls hI hX hA hP hD hS hl hret
  obtain ⟨hx, hb, hml, hown, hts⟩ := id hI
  have hts : ∀ w ∈ aw, w.before ([.ref (ad 0), .int x] : List Value).toArray s = true := fun w h => hts w (List.mem_cons_of_mem _ h)
  have hown : s.vm.findClass "HeadDesk$Reader" = some m.cls := hown
  have hI : hx_In p s m ([.ref (ad 0), .int x] : List Value).toArray c b_Reader_skip 2 "HeadDesk$Reader" aw := ⟨hx, hb, hml, hown, hts⟩
  have hP : va_P D vwCl (rdW ad cd T st) s.heap := hP
  obtain ⟨H, hH⟩ : ∃ H, H = s.heap := ⟨_, rfl⟩
  obtain ⟨locs, hlo⟩ : ∃ locs : List Loc, locs = [] := ⟨_, rfl⟩
  have hS : va_S A s.heap H locs := by rw [hH, hlo]; exact hS
  have hP : va_P D vwCl (rdW ad cd T st) H := by rw [hH]; exact hP
  have hl : lv_has ls 2 [(0, .ref (ad 0)), (1, .int x)] := hl
  have goal : W p l e (rmD 3) s m ([.ref (ad 0), .int x] : List Value).toArray below meth c H locs 0 0 Q (F0 m 0 ls []) := by
    refine lv_aload_n hx hb d_Reader_skip_0 rfl (lv_at hl 0 rfl) ?_
    refine hx_Vi (wr := []) (As := []) (rest := []) hI (c_Reader_mark hT st ) (cw_V (C := "HeadDesk$Reader") 0 hts m_2_41 m_2_43 ms_5 m_1_2 m_2_44 (by decide +kernel) ⟨by decide, by decide⟩) hX hA hP hD hS [0, 1, 2, 3, 4, 5, 6, 7] [] rfl rfl (by decide) (by decide) (by decide) (va_recv hX.1 hP (ci := 1) (q0 := 0) rfl rfl) rfl hl.1 rfl (Nat.le_of_ble_eq_true rfl) d_Reader_skip_1 ⟨Nat.zero_le _, Nat.zero_le _⟩ (fun H locs hP hD hS => ?_)
    have hP : va_P D vwCl (rdW ad cd T st) H := hP
    have hD : va_D A (rdW ad cd T st) := hD
    refine lv_iload_n hx hb d_Reader_skip_4 rfl (lv_at hl 1 rfl) ?_
    refine lv_icmp_eq (tgt := 10) hx hb d_Reader_skip_5 (by decide) (fun c_5 => ?_) (fun c_5 => ?_)
    · skip
      have c_5 : (fMark T st = x) := c_5
      refine lv_aload_n hx hb d_Reader_skip_10 rfl (lv_at hl 0 rfl) ?_
      refine lv_dup hx hb d_Reader_skip_11 rfl ?_
      refine va_get (D := D) (ci := 1) (v := .int (rPl st)) (C := "HeadDesk$Reader") (T := F_Reader) (N := 11) hx hb hts a_Reader hown hX.1 hP 0 rfl rfl 6 (by decide) (hts _ m_1_67) (fun _ h9 => h9) rfl d_Reader_skip_12 ?_
      refine lv_iconst (v := 1) hx hb d_Reader_skip_15 (by decide) ?_
      refine lv_iadd hx hb d_Reader_skip_16 ?_
      refine va_put (D := D) (ci := 1) (v := .int ((rPl st) + 1)) (ty := .int) (C := "HeadDesk$Reader") (T := F_Reader) (N := 11) hx hb hts a_Reader t_Reader k_Reader n_Reader hown hX.1 hP hD hS 0 rfl rfl 6 (by decide) (hts _ m_1_67) (fun _ h9 => h9) rfl (by decide +kernel) rfl rfl (Nat.le_of_ble_eq_true rfl) d_Reader_skip_17 (fun H locs hP hD hS => ?_)
      have hP : va_P D vwCl (rdW ad cd T (sPl st ((rPl st) + 1))) H := hP
      have hD : va_D A (rdW ad cd T (sPl st ((rPl st) + 1))) := hD
      refine lv_iconst (v := 1) hx hb d_Reader_skip_20 (by decide) ?_
      exact hret H locs (sPl st ((rPl st) + 1)) true _ _ hP hD hS (pr2 (by first | (simp only [fSkip, if_pos c_5, fStop, if_true, if_false, Bool.false_eq_true, ↓reduceIte]; done) | (simp only [fSkip, if_pos c_5, fStop, if_true, if_false, Bool.false_eq_true, ↓reduceIte]; with_reducible rfl))) d_Reader_skip_21
    · skip
      have c_5 : ¬ (fMark T st = x) := c_5
      refine lv_iconst (v := 0) hx hb d_Reader_skip_8 (by decide) ?_
      exact hret H locs st false _ _ hP hD hS (pr2 (by first | (simp only [fSkip, if_neg c_5, fStop, if_true, if_false, Bool.false_eq_true, ↓reduceIte]; done) | (simp only [fSkip, if_neg c_5, fStop, if_true, if_false, Bool.false_eq_true, ↓reduceIte]; with_reducible rfl))) d_Reader_skip_9
  rw [hH, hlo] at goal
  exact goal
set_option maxHeartbeats 4000000 in
set_option maxRecDepth 100000 in
theorem c_Reader_take (hT : T.2 ≤ 300) (st : RS) (x : Int32) : hx_Mz l D (tyH cd) adK adV tF (rdW ad cd T) y_Reader_take w_Reader_take (rmD 3) [.ref (ad 0), .int x] st ((fTake T st x).1) ((fTake T st x).2) := by
  refine hx_Mz.of (cc := b_Reader_take) (maxL := 2) (by decide) rfl (Nat.le_of_ble_eq_true rfl) ?_
  intro p e s m below meth c A Q ls hI hX hA hP hD hS hl hret
  obtain ⟨hx, hb, hml, hown, hts⟩ := id hI
  have hts : ∀ w ∈ aw, w.before ([.ref (ad 0), .int x] : List Value).toArray s = true := fun w h => hts w (List.mem_cons_of_mem _ h)
  have hown : s.vm.findClass "HeadDesk$Reader" = some m.cls := hown
  have hI : hx_In p s m ([.ref (ad 0), .int x] : List Value).toArray c b_Reader_take 2 "HeadDesk$Reader" aw := ⟨hx, hb, hml, hown, hts⟩
  have hP : va_P D vwCl (rdW ad cd T st) s.heap := hP
  obtain ⟨H, hH⟩ : ∃ H, H = s.heap := ⟨_, rfl⟩
  obtain ⟨locs, hlo⟩ : ∃ locs : List Loc, locs = [] := ⟨_, rfl⟩
  have hS : va_S A s.heap H locs := by rw [hH, hlo]; exact hS
  have hP : va_P D vwCl (rdW ad cd T st) H := by rw [hH]; exact hP
  have hl : lv_has ls 2 [(0, .ref (ad 0)), (1, .int x)] := hl
  have goal : W p l e (rmD 3) s m ([.ref (ad 0), .int x] : List Value).toArray below meth c H locs 0 0 Q (F0 m 0 ls []) := by
    refine lv_aload_n hx hb d_Reader_take_0 rfl (lv_at hl 0 rfl) ?_
    refine hx_Vi (wr := []) (As := []) (rest := []) hI (c_Reader_mark hT st ) (cw_V (C := "HeadDesk$Reader") 0 hts m_2_41 m_2_43 ms_5 m_1_2 m_2_44 (by decide +kernel) ⟨by decide, by decide⟩) hX hA hP hD hS [0, 1, 2, 3, 4, 5, 6, 7] [] rfl rfl (by decide) (by decide) (by decide) (va_recv hX.1 hP (ci := 1) (q0 := 0) rfl rfl) rfl hl.1 rfl (Nat.le_of_ble_eq_true rfl) d_Reader_take_1 ⟨Nat.zero_le _, Nat.zero_le _⟩ (fun H locs hP hD hS => ?_)
    have hP : va_P D vwCl (rdW ad cd T st) H := hP
    have hD : va_D A (rdW ad cd T st) := hD
    refine lv_iload_n hx hb d_Reader_take_4 rfl (lv_at hl 1 rfl) ?_
    refine lv_icmp_eq (tgt := 17) hx hb d_Reader_take_5 (by decide) (fun c_5 => ?_) (fun c_5 => ?_)
    · skip
      have c_5 : (fMark T st = x) := c_5
      refine lv_aload_n hx hb d_Reader_take_17 rfl (lv_at hl 0 rfl) ?_
      refine lv_dup hx hb d_Reader_take_18 rfl ?_
      refine va_get (D := D) (ci := 1) (v := .int (rPl st)) (C := "HeadDesk$Reader") (T := F_Reader) (N := 11) hx hb hts a_Reader hown hX.1 hP 0 rfl rfl 6 (by decide) (hts _ m_1_67) (fun _ h9 => h9) rfl d_Reader_take_19 ?_
      refine lv_iconst (v := 1) hx hb d_Reader_take_22 (by decide) ?_
      refine lv_iadd hx hb d_Reader_take_23 ?_
      refine va_put (D := D) (ci := 1) (v := .int ((rPl st) + 1)) (ty := .int) (C := "HeadDesk$Reader") (T := F_Reader) (N := 11) hx hb hts a_Reader t_Reader k_Reader n_Reader hown hX.1 hP hD hS 0 rfl rfl 6 (by decide) (hts _ m_1_67) (fun _ h9 => h9) rfl (by decide +kernel) rfl rfl (Nat.le_of_ble_eq_true rfl) d_Reader_take_24 (fun H locs hP hD hS => ?_)
      have hP : va_P D vwCl (rdW ad cd T (sPl st ((rPl st) + 1))) H := hP
      have hD : va_D A (rdW ad cd T (sPl st ((rPl st) + 1))) := hD
      refine lv_iconst (v := 1) hx hb d_Reader_take_27 (by decide) ?_
      exact hret H locs (sPl st ((rPl st) + 1)) true _ _ hP hD hS (pr2 (by first | (simp only [fTake, if_pos c_5, fStop, if_true, if_false, Bool.false_eq_true, ↓reduceIte]; done) | (simp only [fTake, if_pos c_5, fStop, if_true, if_false, Bool.false_eq_true, ↓reduceIte]; with_reducible rfl))) d_Reader_take_28
    · skip
      have c_5 : ¬ (fMark T st = x) := c_5
      refine lv_aload_n hx hb d_Reader_take_8 rfl (lv_at hl 0 rfl) ?_
      refine lv_aload_n hx hb d_Reader_take_9 rfl (lv_at hl 0 rfl) ?_
      refine va_get (D := D) (ci := 1) (v := .int (rPl st)) (C := "HeadDesk$Reader") (T := F_Reader) (N := 11) hx hb hts a_Reader hown hX.1 hP 0 rfl rfl 6 (by decide) (hts _ m_1_67) (fun _ h9 => h9) rfl d_Reader_take_10 ?_
      refine hx_Vz (wr := []) (As := [.int (rPl st)]) (rest := []) hI (c_Reader_stop hT st (rPl st)) (cw_V (C := "HeadDesk$Reader") 1 hts m_2_87 m_2_89 ms_6 m_1_2 m_2_90 (by decide +kernel) ⟨by decide, by decide⟩) hX hA hP hD hS [0, 1, 2, 3, 4, 5, 6, 7] [] rfl rfl (by decide) (by decide) (by decide) (va_recv hX.1 hP (ci := 1) (q0 := 0) rfl rfl) rfl hl.1 rfl (Nat.le_of_ble_eq_true rfl) d_Reader_take_13 ⟨Nat.zero_le _, Nat.zero_le _⟩ (fun H locs hP hD hS => ?_)
      obtain ⟨s_13, e_13⟩ : ∃ z : RS, z = sSk st (rPl st) := ⟨_, rfl⟩
      have hP : va_P D vwCl (rdW ad cd T s_13) H := by rw [e_13]; exact hP
      have hD : va_D A (rdW ad cd T s_13) := by rw [e_13]; exact hD
      exact hret H locs s_13 false _ _ hP hD hS (pr2 (by first | (simp only [fTake, if_neg c_5, ← e_13, fStop, if_true, if_false, Bool.false_eq_true, ↓reduceIte]; done) | (simp only [fTake, if_neg c_5, ← e_13, fStop, if_true, if_false, Bool.false_eq_true, ↓reduceIte]; with_reducible rfl) | (simp only [fTake, if_neg c_5, ← e_13, fStop, if_true, if_false, Bool.false_eq_true, ↓reduceIte]; rw [e_13]))) d_Reader_take_16
  rw [hH, hlo] at goal
  exact goal
set_option maxHeartbeats 4000000 in
set_option maxRecDepth 100000 in
theorem c_Reader_stuckAt (hT : T.2 ≤ 300) (st : RS)  : hx_Mi l D (tyH cd) adK adV tF (rdW ad cd T) y_Reader_stuckAt w_Reader_stuckAt (rmD 1) [.ref (ad 0)] st (rSk st) st := by
  refine hx_Mi.of (cc := b_Reader_stuckAt) (maxL := 1) rfl (by decide) rfl (Nat.le_of_ble_eq_true rfl) ?_
  intro p e s m below meth c A Q ls hI hX hA hP hD hS hl hret
  obtain ⟨hx, hb, hml, hown, hts⟩ := id hI
  have hts : ∀ w ∈ aw, w.before ([.ref (ad 0)] : List Value).toArray s = true := fun w h => hts w (List.mem_cons_of_mem _ h)
  have hown : s.vm.findClass "HeadDesk$Reader" = some m.cls := hown
  have hI : hx_In p s m ([.ref (ad 0)] : List Value).toArray c b_Reader_stuckAt 1 "HeadDesk$Reader" aw := ⟨hx, hb, hml, hown, hts⟩
  have hP : va_P D vwCl (rdW ad cd T st) s.heap := hP
  obtain ⟨H, hH⟩ : ∃ H, H = s.heap := ⟨_, rfl⟩
  obtain ⟨locs, hlo⟩ : ∃ locs : List Loc, locs = [] := ⟨_, rfl⟩
  have hS : va_S A s.heap H locs := by rw [hH, hlo]; exact hS
  have hP : va_P D vwCl (rdW ad cd T st) H := by rw [hH]; exact hP
  have hl : lv_has ls 1 [(0, .ref (ad 0))] := hl
  have goal : W p l e (rmD 1) s m ([.ref (ad 0)] : List Value).toArray below meth c H locs 0 0 Q (F0 m 0 ls []) := by
    refine lv_aload_n hx hb d_Reader_stuckAt_0 rfl (lv_at hl 0 rfl) ?_
    refine va_get (D := D) (ci := 1) (v := .int (rSk st)) (C := "HeadDesk$Reader") (T := F_Reader) (N := 11) hx hb hts a_Reader hown hX.1 hP 0 rfl rfl 7 (by decide) (hts _ m_1_68) (fun _ h9 => h9) rfl d_Reader_stuckAt_1 ?_
    exact hret H locs st (rSk st) _ _ hP hD hS ⟨(by first | (simp only [rSk, fStop, if_true, if_false, Bool.false_eq_true, ↓reduceIte]; done) | (simp only [rSk, fStop, if_true, if_false, Bool.false_eq_true, ↓reduceIte]; with_reducible rfl)), rfl⟩ d_Reader_stuckAt_4
  rw [hH, hlo] at goal
  exact goal
