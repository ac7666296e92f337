variable {l : Launch} {D : va_G} {bd : Nat → Nat} {ce : Nat → ClassId} {adK adV : Nat → Nat} {tF : Nat} {tys : List (ClassId × FieldType)}

set_option maxHeartbeats 4000000 in
set_option maxRecDepth 100000 in
theorem c_Mod_isDigit (x : Int32) : hx_Mz l D tys adK adV tF (fun _ : Unit => []) y_Mod_isDigit w_Mod_isDigit (rmD 1) [.int x] () (isD x) () := by
  refine hx_Mz.of (cc := b_Mod_isDigit) (maxL := 1) (by decide) rfl (Nat.le_of_ble_eq_true rfl) ?_
  intro p e s m below meth c A Q ls hI hX hA hP hD hS hl hret
  obtain ⟨hx, hb, hml, hown, hts⟩ := id hI
  have hts : ∀ w ∈ aw, w.before ([.int x] : List Value).toArray s = true := fun w h => hts w (List.mem_cons_of_mem _ h)
  have hown : s.vm.findClass "HeadDeskModel" = some m.cls := hown
  have hI : hx_In p s m ([.int x] : List Value).toArray c b_Mod_isDigit 1 "HeadDeskModel" aw := ⟨hx, hb, hml, hown, hts⟩
  have hP : va_P D vwCl ([]) s.heap := hP
  obtain ⟨H, hH⟩ : ∃ H, H = s.heap := ⟨_, rfl⟩
  obtain ⟨locs, hlo⟩ : ∃ locs : List Loc, locs = [] := ⟨_, rfl⟩
  have hS : va_S A s.heap H locs := by rw [hH, hlo]; exact hS
  have hP : va_P D vwCl ([]) H := by rw [hH]; exact hP
  have hl : lv_has ls 1 [(0, .int x)] := hl
  have goal : W p l e (rmD 1) s m ([.int x] : List Value).toArray below meth c H locs 0 0 Q (F0 m 0 ls []) := by
    refine lv_iload_n hx hb d_Mod_isDigit_0 rfl (lv_at hl 0 rfl) ?_
    refine lv_bipush (v := 48) hx hb d_Mod_isDigit_1 (by decide) ?_
    refine lv_icmp_lt (tgt := 16) hx hb d_Mod_isDigit_3 (by decide) (fun c_3 => ?_) (fun c_3 => ?_)
    · skip
      have c_3 : (x < 48) := c_3
      refine lv_iconst (v := 0) hx hb d_Mod_isDigit_16 (by decide) ?_
      exact hret H locs () false _ _ hP hD hS ⟨(by first | (simp only [isD, if_pos c_3, fStop, if_true, if_false, Bool.false_eq_true, ↓reduceIte]; done) | (simp only [isD, if_pos c_3, fStop, if_true, if_false, Bool.false_eq_true, ↓reduceIte]; with_reducible rfl)), rfl⟩ d_Mod_isDigit_17
    · skip
      have c_3 : ¬ (x < 48) := c_3
      refine lv_iload_n hx hb d_Mod_isDigit_6 rfl (lv_at hl 0 rfl) ?_
      refine lv_bipush (v := 57) hx hb d_Mod_isDigit_7 (by decide) ?_
      refine lv_icmp_gt (tgt := 16) hx hb d_Mod_isDigit_9 (by decide) (fun c_9 => ?_) (fun c_9 => ?_)
      · skip
        have c_9 : (57 < x) := c_9
        refine lv_iconst (v := 0) hx hb d_Mod_isDigit_16 (by decide) ?_
        exact hret H locs () false _ _ hP hD hS ⟨(by first | (simp only [isD, if_neg c_3, if_pos c_9, fStop, if_true, if_false, Bool.false_eq_true, ↓reduceIte]; done) | (simp only [isD, if_neg c_3, if_pos c_9, fStop, if_true, if_false, Bool.false_eq_true, ↓reduceIte]; with_reducible rfl)), rfl⟩ d_Mod_isDigit_17
      · skip
        have c_9 : ¬ (57 < x) := c_9
        refine lv_iconst (v := 1) hx hb d_Mod_isDigit_12 (by decide) ?_
        refine lv_goto (tgt := 17) hx hb d_Mod_isDigit_13 (by decide) ?_
        exact hret H locs () true _ _ hP hD hS ⟨(by first | (simp only [isD, if_neg c_3, if_neg c_9, fStop, if_true, if_false, Bool.false_eq_true, ↓reduceIte]; done) | (simp only [isD, if_neg c_3, if_neg c_9, fStop, if_true, if_false, Bool.false_eq_true, ↓reduceIte]; with_reducible rfl)), rfl⟩ d_Mod_isDigit_17
  rw [hH, hlo] at goal
  exact goal
set_option maxHeartbeats 4000000 in
set_option maxRecDepth 100000 in
theorem c_Mod_isSmall (x : Int32) : hx_Mz l D tys adK adV tF (fun _ : Unit => []) y_Mod_isSmall w_Mod_isSmall (rmD 1) [.int x] () (isL x) () := by
  refine hx_Mz.of (cc := b_Mod_isSmall) (maxL := 1) (by decide) rfl (Nat.le_of_ble_eq_true rfl) ?_
  intro p e s m below meth c A Q ls hI hX hA hP hD hS hl hret
  obtain ⟨hx, hb, hml, hown, hts⟩ := id hI
  have hts : ∀ w ∈ aw, w.before ([.int x] : List Value).toArray s = true := fun w h => hts w (List.mem_cons_of_mem _ h)
  have hown : s.vm.findClass "HeadDeskModel" = some m.cls := hown
  have hI : hx_In p s m ([.int x] : List Value).toArray c b_Mod_isSmall 1 "HeadDeskModel" aw := ⟨hx, hb, hml, hown, hts⟩
  have hP : va_P D vwCl ([]) s.heap := hP
  obtain ⟨H, hH⟩ : ∃ H, H = s.heap := ⟨_, rfl⟩
  obtain ⟨locs, hlo⟩ : ∃ locs : List Loc, locs = [] := ⟨_, rfl⟩
  have hS : va_S A s.heap H locs := by rw [hH, hlo]; exact hS
  have hP : va_P D vwCl ([]) H := by rw [hH]; exact hP
  have hl : lv_has ls 1 [(0, .int x)] := hl
  have goal : W p l e (rmD 1) s m ([.int x] : List Value).toArray below meth c H locs 0 0 Q (F0 m 0 ls []) := by
    refine lv_iload_n hx hb d_Mod_isSmall_0 rfl (lv_at hl 0 rfl) ?_
    refine lv_bipush (v := 97) hx hb d_Mod_isSmall_1 (by decide) ?_
    refine lv_icmp_lt (tgt := 12) hx hb d_Mod_isSmall_3 (by decide) (fun c_3 => ?_) (fun c_3 => ?_)
    · skip
      have c_3 : (x < 97) := c_3
      refine lv_iload_n hx hb d_Mod_isSmall_12 rfl (lv_at hl 0 rfl) ?_
      refine lv_bipush (v := 45) hx hb d_Mod_isSmall_13 (by decide) ?_
      refine lv_icmp_ne (tgt := 22) hx hb d_Mod_isSmall_15 (by decide) (fun c_15 => ?_) (fun c_15 => ?_)
      · skip
        have c_15 : ¬ (x = 45) := c_15
        refine lv_iconst (v := 0) hx hb d_Mod_isSmall_22 (by decide) ?_
        exact hret H locs () false _ _ hP hD hS ⟨(by first | (simp only [isL, if_pos c_3, if_neg c_15, fStop, if_true, if_false, Bool.false_eq_true, ↓reduceIte]; done) | (simp only [isL, if_pos c_3, if_neg c_15, fStop, if_true, if_false, Bool.false_eq_true, ↓reduceIte]; with_reducible rfl)), rfl⟩ d_Mod_isSmall_23
      · skip
        have c_15 : (x = 45) := c_15
        refine lv_iconst (v := 1) hx hb d_Mod_isSmall_18 (by decide) ?_
        refine lv_goto (tgt := 23) hx hb d_Mod_isSmall_19 (by decide) ?_
        exact hret H locs () true _ _ hP hD hS ⟨(by first | (simp only [isL, if_pos c_3, if_pos c_15, fStop, if_true, if_false, Bool.false_eq_true, ↓reduceIte]; done) | (simp only [isL, if_pos c_3, if_pos c_15, fStop, if_true, if_false, Bool.false_eq_true, ↓reduceIte]; with_reducible rfl)), rfl⟩ d_Mod_isSmall_23
    · skip
      have c_3 : ¬ (x < 97) := c_3
      refine lv_iload_n hx hb d_Mod_isSmall_6 rfl (lv_at hl 0 rfl) ?_
      refine lv_bipush (v := 122) hx hb d_Mod_isSmall_7 (by decide) ?_
      refine lv_icmp_le (tgt := 18) hx hb d_Mod_isSmall_9 (by decide) (fun c_9 => ?_) (fun c_9 => ?_)
      · skip
        have c_9 : (x ≤ 122) := c_9
        refine lv_iconst (v := 1) hx hb d_Mod_isSmall_18 (by decide) ?_
        refine lv_goto (tgt := 23) hx hb d_Mod_isSmall_19 (by decide) ?_
        exact hret H locs () true _ _ hP hD hS ⟨(by first | (simp only [isL, if_neg c_3, if_pos c_9, fStop, if_true, if_false, Bool.false_eq_true, ↓reduceIte]; done) | (simp only [isL, if_neg c_3, if_pos c_9, fStop, if_true, if_false, Bool.false_eq_true, ↓reduceIte]; with_reducible rfl)), rfl⟩ d_Mod_isSmall_23
      · skip
        have c_9 : ¬ (x ≤ 122) := c_9
        refine lv_iload_n hx hb d_Mod_isSmall_12 rfl (lv_at hl 0 rfl) ?_
        refine lv_bipush (v := 45) hx hb d_Mod_isSmall_13 (by decide) ?_
        refine lv_icmp_ne (tgt := 22) hx hb d_Mod_isSmall_15 (by decide) (fun c_15 => ?_) (fun c_15 => ?_)
        · skip
          have c_15 : ¬ (x = 45) := c_15
          refine lv_iconst (v := 0) hx hb d_Mod_isSmall_22 (by decide) ?_
          exact hret H locs () false _ _ hP hD hS ⟨(by first | (simp only [isL, if_neg c_3, if_neg c_9, if_neg c_15, fStop, if_true, if_false, Bool.false_eq_true, ↓reduceIte]; done) | (simp only [isL, if_neg c_3, if_neg c_9, if_neg c_15, fStop, if_true, if_false, Bool.false_eq_true, ↓reduceIte]; with_reducible rfl)), rfl⟩ d_Mod_isSmall_23
        · skip
          have c_15 : (x = 45) := c_15
          refine lv_iconst (v := 1) hx hb d_Mod_isSmall_18 (by decide) ?_
          refine lv_goto (tgt := 23) hx hb d_Mod_isSmall_19 (by decide) ?_
          exact hret H locs () true _ _ hP hD hS ⟨(by first | (simp only [isL, if_neg c_3, if_neg c_9, if_pos c_15, fStop, if_true, if_false, Bool.false_eq_true, ↓reduceIte]; done) | (simp only [isL, if_neg c_3, if_neg c_9, if_pos c_15, fStop, if_true, if_false, Bool.false_eq_true, ↓reduceIte]; with_reducible rfl)), rfl⟩ d_Mod_isSmall_23
  rw [hH, hlo] at goal
  exact goal
set_option maxHeartbeats 4000000 in
set_option maxRecDepth 100000 in
theorem c_Mod_thrown (st : MS) (hv : mInv st)  : hx_Mi l D (tyM ce) adK adV tF (mdW bd ce) y_Mod_thrown w_Mod_thrown (rmD 1) [.ref (bd 0)] st (gR st 0) st := by
  refine hx_Mi.of (cc := b_Mod_thrown) (maxL := 1) rfl (by decide) rfl (Nat.le_of_ble_eq_true rfl) ?_
  intro p e s m below meth c A Q ls hI hX hA hP hD hS hl hret
  obtain ⟨hx, hb, hml, hown, hts⟩ := id hI
  have hts : ∀ w ∈ aw, w.before ([.ref (bd 0)] : List Value).toArray s = true := fun w h => hts w (List.mem_cons_of_mem _ h)
  have hown : s.vm.findClass "HeadDeskModel" = some m.cls := hown
  have hI : hx_In p s m ([.ref (bd 0)] : List Value).toArray c b_Mod_thrown 1 "HeadDeskModel" aw := ⟨hx, hb, hml, hown, hts⟩
  have hP : va_P D vwCl (mdW bd ce st) s.heap := hP
  obtain ⟨H, hH⟩ : ∃ H, H = s.heap := ⟨_, rfl⟩
  obtain ⟨locs, hlo⟩ : ∃ locs : List Loc, locs = [] := ⟨_, rfl⟩
  have hS : va_S A s.heap H locs := by rw [hH, hlo]; exact hS
  have hP : va_P D vwCl (mdW bd ce st) H := by rw [hH]; exact hP
  have hl : lv_has ls 1 [(0, .ref (bd 0))] := hl
  have goal : W p l e (rmD 1) s m ([.ref (bd 0)] : List Value).toArray below meth c H locs 0 0 Q (F0 m 0 ls []) := by
    refine lv_aload_n hx hb d_Mod_thrown_0 rfl (lv_at hl 0 rfl) ?_
    refine va_get (D := D) (ci := 4) (v := .int (gR st 0)) (C := "HeadDeskModel") (T := F_Mod) (N := 38) hx hb hts a_Mod hown hX.1 hP 0 rfl rfl 0 (by decide) (hts _ m_2_217) (fun _ h9 => h9) rfl d_Mod_thrown_1 ?_
    exact hret H locs st (gR st 0) _ _ hP hD hS ⟨rfl, rfl⟩ d_Mod_thrown_4
  rw [hH, hlo] at goal
  exact goal
set_option maxHeartbeats 4000000 in
set_option maxRecDepth 100000 in
theorem c_Mod_see (st : MS) (hv : mInv st)  : hx_Mi l D (tyM ce) adK adV tF (mdW bd ce) y_Mod_see w_Mod_see (rmD 1) [.ref (bd 0)] st (mSee st) st := by
  refine hx_Mi.of (cc := b_Mod_see) (maxL := 1) rfl (by decide) rfl (Nat.le_of_ble_eq_true rfl) ?_
  intro p e s m below meth c A Q ls hI hX hA hP hD hS hl hret
  obtain ⟨hx, hb, hml, hown, hts⟩ := id hI
  have hts : ∀ w ∈ aw, w.before ([.ref (bd 0)] : List Value).toArray s = true := fun w h => hts w (List.mem_cons_of_mem _ h)
  have hown : s.vm.findClass "HeadDeskModel" = some m.cls := hown
  have hI : hx_In p s m ([.ref (bd 0)] : List Value).toArray c b_Mod_see 1 "HeadDeskModel" aw := ⟨hx, hb, hml, hown, hts⟩
  have hP : va_P D vwCl (mdW bd ce st) s.heap := hP
  obtain ⟨H, hH⟩ : ∃ H, H = s.heap := ⟨_, rfl⟩
  obtain ⟨locs, hlo⟩ : ∃ locs : List Loc, locs = [] := ⟨_, rfl⟩
  have hS : va_S A s.heap H locs := by rw [hH, hlo]; exact hS
  have hP : va_P D vwCl (mdW bd ce st) H := by rw [hH]; exact hP
  have hl : lv_has ls 1 [(0, .ref (bd 0))] := hl
  have goal : W p l e (rmD 1) s m ([.ref (bd 0)] : List Value).toArray below meth c H locs 0 0 Q (F0 m 0 ls []) := by
    refine lv_aload_n hx hb d_Mod_see_0 rfl (lv_at hl 0 rfl) ?_
    refine va_get (D := D) (ci := 4) (v := .int (gR st 3)) (C := "HeadDeskModel") (T := F_Mod) (N := 38) hx hb hts a_Mod hown hX.1 hP 0 rfl rfl 4 (by decide) (hts _ m_2_221) (fun _ h9 => h9) rfl d_Mod_see_1 ?_
    refine lv_aload_n hx hb d_Mod_see_4 rfl (lv_at hl 0 rfl) ?_
    refine va_get (D := D) (ci := 4) (v := .int (gR st 1)) (C := "HeadDeskModel") (T := F_Mod) (N := 38) hx hb hts a_Mod hown hX.1 hP 0 rfl rfl 2 (by decide) (hts _ m_2_219) (fun _ h9 => h9) rfl d_Mod_see_5 ?_
    refine lv_icmp_ge (tgt := 23) hx hb d_Mod_see_8 (by decide) (fun c_8 => ?_) (fun c_8 => ?_)
    · skip
      have c_8 : (gR st 1 ≤ gR st 3) := c_8
      refine lv_iconst (v := (-1)) hx hb d_Mod_see_23 (by decide) ?_
      exact hret H locs st (-1) _ _ hP hD hS ⟨(by first | (simp only [mSee, if_pos c_8, fStop, if_true, if_false, Bool.false_eq_true, ↓reduceIte]; done) | (simp only [mSee, if_pos c_8, fStop, if_true, if_false, Bool.false_eq_true, ↓reduceIte]; with_reducible rfl)), rfl⟩ d_Mod_see_24
    · skip
      have c_8 : ¬ (gR st 1 ≤ gR st 3) := c_8
      refine lv_aload_n hx hb d_Mod_see_11 rfl (lv_at hl 0 rfl) ?_
      refine va_get (D := D) (ci := 4) (v := .ref (bd 1)) (C := "HeadDeskModel") (T := F_Mod) (N := 38) hx hb hts a_Mod hown hX.1 hP 0 rfl rfl 1 (by decide) (hts _ m_2_218) (fun _ h9 => h9) rfl d_Mod_see_12 ?_
      refine lv_aload_n hx hb d_Mod_see_15 rfl (lv_at hl 0 rfl) ?_
      refine va_get (D := D) (ci := 4) (v := .int (gR st 3)) (C := "HeadDeskModel") (T := F_Mod) (N := 38) hx hb hts a_Mod hown hX.1 hP 0 rfl rfl 4 (by decide) (hts _ m_2_221) (fun _ h9 => h9) rfl d_Mod_see_16 ?_
      refine va_iald hx hb hX.1 hP 1 0 rfl rfl (see_in hv c_8) d_Mod_see_19 ?_
      refine lv_goto (tgt := 24) hx hb d_Mod_see_20 (by decide) ?_
      exact hret H locs st ((gTp st) (gR st 3).toNatClampNeg) _ _ hP hD hS ⟨(by first | (simp only [mSee, if_neg c_8, fStop, if_true, if_false, Bool.false_eq_true, ↓reduceIte]; done) | (simp only [mSee, if_neg c_8, fStop, if_true, if_false, Bool.false_eq_true, ↓reduceIte]; with_reducible rfl)), rfl⟩ d_Mod_see_24
  rw [hH, hlo] at goal
  exact goal
set_option maxHeartbeats 4000000 in
set_option maxRecDepth 100000 in
theorem c_Mod_wrong (st : MS) (hv : mInv st) (x : Int32) : hx_Mz l D (tyM ce) adK adV tF (mdW bd ce) y_Mod_wrong w_Mod_wrong (rmD 1) [.ref (bd 0), .int x] st false (mWr st x) := by
  refine hx_Mz.of (cc := b_Mod_wrong) (maxL := 2) (by decide) rfl (Nat.le_of_ble_eq_true rfl) ?_
  intro p e s m below meth c A Q ls hI hX hA hP hD hS hl hret
  obtain ⟨hx, hb, hml, hown, hts⟩ := id hI
  have hts : ∀ w ∈ aw, w.before ([.ref (bd 0), .int x] : List Value).toArray s = true := fun w h => hts w (List.mem_cons_of_mem _ h)
  have hown : s.vm.findClass "HeadDeskModel" = some m.cls := hown
  have hI : hx_In p s m ([.ref (bd 0), .int x] : List Value).toArray c b_Mod_wrong 2 "HeadDeskModel" aw := ⟨hx, hb, hml, hown, hts⟩
  have hP : va_P D vwCl (mdW bd ce st) s.heap := hP
  obtain ⟨H, hH⟩ : ∃ H, H = s.heap := ⟨_, rfl⟩
  obtain ⟨locs, hlo⟩ : ∃ locs : List Loc, locs = [] := ⟨_, rfl⟩
  have hS : va_S A s.heap H locs := by rw [hH, hlo]; exact hS
  have hP : va_P D vwCl (mdW bd ce st) H := by rw [hH]; exact hP
  have hl : lv_has ls 2 [(0, .ref (bd 0)), (1, .int x)] := hl
  have goal : W p l e (rmD 1) s m ([.ref (bd 0), .int x] : List Value).toArray below meth c H locs 0 0 Q (F0 m 0 ls []) := by
    refine lv_aload_n hx hb d_Mod_wrong_0 rfl (lv_at hl 0 rfl) ?_
    refine va_get (D := D) (ci := 4) (v := .int (gR st 4)) (C := "HeadDeskModel") (T := F_Mod) (N := 38) hx hb hts a_Mod hown hX.1 hP 0 rfl rfl 5 (by decide) (hts _ m_2_222) (fun _ h9 => h9) rfl d_Mod_wrong_1 ?_
    refine lv_if_ne (tgt := 17) hx hb d_Mod_wrong_4 (by decide) (fun c_4 => ?_) (fun c_4 => ?_)
    · skip
      have c_4 : ¬ (gR st 4 = 0) := c_4
      refine lv_iconst (v := 0) hx hb d_Mod_wrong_17 (by decide) ?_
      exact hret H locs st false _ _ hP hD hS ⟨rfl, by first | (simp only [mWr, if_neg c_4, fStop, if_true, if_false, Bool.false_eq_true, ↓reduceIte]; done) | (simp only [mWr, if_neg c_4, fStop, if_true, if_false, Bool.false_eq_true, ↓reduceIte]; with_reducible rfl)⟩ d_Mod_wrong_18
    · skip
      have c_4 : (gR st 4 = 0) := c_4
      refine lv_aload_n hx hb d_Mod_wrong_7 rfl (lv_at hl 0 rfl) ?_
      refine lv_iconst (v := 1) hx hb d_Mod_wrong_8 (by decide) ?_
      refine va_put (D := D) (ci := 4) (v := .int 1) (ty := .boolean) (C := "HeadDeskModel") (T := F_Mod) (N := 38) hx hb hts a_Mod t_Mod k_Mod n_Mod hown hX.1 hP hD hS 0 rfl rfl 5 (by decide) (hts _ m_2_222) (fun _ h9 => h9) rfl (by decide +kernel) rfl rfl (Nat.le_of_ble_eq_true rfl) d_Mod_wrong_9 (fun H locs hP hD hS => ?_)
      have hP : va_P D vwCl (mdW bd ce (wR st 4 1)) H := hP
      have hD : va_D A (mdW bd ce (wR st 4 1)) := hD
      obtain ⟨s_9, e_9⟩ : ∃ z : MS, z = wR st 4 1 := ⟨_, rfl⟩
      have hP : va_P D vwCl (mdW bd ce s_9) H := by rw [e_9]; exact hP
      have hD : va_D A (mdW bd ce s_9) := by rw [e_9]; exact hD
      have i_9 : mInv s_9 := by rw [e_9]; exact hv
      refine lv_aload_n hx hb d_Mod_wrong_12 rfl (lv_at hl 0 rfl) ?_
      refine lv_iload_n hx hb d_Mod_wrong_13 rfl (lv_at hl 1 rfl) ?_
      refine va_put (D := D) (ci := 4) (v := .int x) (ty := .int) (C := "HeadDeskModel") (T := F_Mod) (N := 38) hx hb hts a_Mod t_Mod k_Mod n_Mod hown hX.1 hP hD hS 0 rfl rfl 6 (by decide) (hts _ m_2_223) (fun _ h9 => h9) rfl (by decide +kernel) rfl rfl (Nat.le_of_ble_eq_true rfl) d_Mod_wrong_14 (fun H locs hP hD hS => ?_)
      have hP : va_P D vwCl (mdW bd ce (wR s_9 5 x)) H := hP
      have hD : va_D A (mdW bd ce (wR s_9 5 x)) := hD
      obtain ⟨s_14, e_14⟩ : ∃ z : MS, z = wR s_9 5 x := ⟨_, rfl⟩
      have hP : va_P D vwCl (mdW bd ce s_14) H := by rw [e_14]; exact hP
      have hD : va_D A (mdW bd ce s_14) := by rw [e_14]; exact hD
      have i_14 : mInv s_14 := by rw [e_14]; exact i_9
      refine lv_iconst (v := 0) hx hb d_Mod_wrong_17 (by decide) ?_
      exact hret H locs s_14 false _ _ hP hD hS ⟨rfl, by first | (simp only [mWr, if_pos c_4, ← e_9, ← e_14, fStop, if_true, if_false, Bool.false_eq_true, ↓reduceIte]; done) | (simp only [mWr, if_pos c_4, ← e_9, ← e_14, fStop, if_true, if_false, Bool.false_eq_true, ↓reduceIte]; with_reducible rfl) | (simp only [mWr, if_pos c_4, ← e_9, ← e_14, fStop, if_true, if_false, Bool.false_eq_true, ↓reduceIte]; rw [e_14])⟩ d_Mod_wrong_18
  rw [hH, hlo] at goal
  exact goal
set_option maxHeartbeats 4000000 in
set_option maxRecDepth 100000 in
theorem c_Mod_expect (st : MS) (hv : mInv st) (x : Int32) (hc : ¬ x = -1) : hx_Mz l D (tyM ce) adK adV tF (mdW bd ce) y_Mod_expect w_Mod_expect (rmD 2) [.ref (bd 0), .int x] st ((mExp st x).1) ((mExp st x).2) := by
  refine hx_Mz.of (cc := b_Mod_expect) (maxL := 2) (by decide) rfl (Nat.le_of_ble_eq_true rfl) ?_
  intro p e s m below meth c A Q ls hI hX hA hP hD hS hl hret
  obtain ⟨hx, hb, hml, hown, hts⟩ := id hI
  have hts : ∀ w ∈ aw, w.before ([.ref (bd 0), .int x] : List Value).toArray s = true := fun w h => hts w (List.mem_cons_of_mem _ h)
  have hown : s.vm.findClass "HeadDeskModel" = some m.cls := hown
  have hI : hx_In p s m ([.ref (bd 0), .int x] : List Value).toArray c b_Mod_expect 2 "HeadDeskModel" aw := ⟨hx, hb, hml, hown, hts⟩
  have hP : va_P D vwCl (mdW bd ce st) s.heap := hP
  obtain ⟨H, hH⟩ : ∃ H, H = s.heap := ⟨_, rfl⟩
  obtain ⟨locs, hlo⟩ : ∃ locs : List Loc, locs = [] := ⟨_, rfl⟩
  have hS : va_S A s.heap H locs := by rw [hH, hlo]; exact hS
  have hP : va_P D vwCl (mdW bd ce st) H := by rw [hH]; exact hP
  have hl : lv_has ls 2 [(0, .ref (bd 0)), (1, .int x)] := hl
  have goal : W p l e (rmD 2) s m ([.ref (bd 0), .int x] : List Value).toArray below meth c H locs 0 0 Q (F0 m 0 ls []) := by
    refine lv_aload_n hx hb d_Mod_expect_0 rfl (lv_at hl 0 rfl) ?_
    refine va_get (D := D) (ci := 4) (v := .int (gR st 4)) (C := "HeadDeskModel") (T := F_Mod) (N := 38) hx hb hts a_Mod hown hX.1 hP 0 rfl rfl 5 (by decide) (hts _ m_2_222) (fun _ h9 => h9) rfl d_Mod_expect_1 ?_
    refine lv_if_eq (tgt := 9) hx hb d_Mod_expect_4 (by decide) (fun c_4 => ?_) (fun c_4 => ?_)
    · skip
      have c_4 : (gR st 4 = 0) := c_4
      refine lv_aload_n hx hb d_Mod_expect_9 rfl (lv_at hl 0 rfl) ?_
      refine hx_Vi (wr := []) (As := []) (rest := []) hI (c_Mod_see st hv ) (cw_V (C := "HeadDeskModel") 0 hts m_3_109 m_3_111 ms_26 m_1_5 m_3_112 (by decide +kernel) ⟨by decide, by decide⟩) hX hA hP hD hS [0, 1, 2, 3, 4, 5, 6] [] rfl rfl (by decide) (by decide) (by decide) (va_recv hX.1 hP (ci := 4) (q0 := 0) rfl rfl) rfl hl.1 rfl (Nat.le_of_ble_eq_true rfl) d_Mod_expect_10 ⟨Nat.zero_le _, Nat.zero_le _⟩ (fun H locs hP hD hS => ?_)
      have hP : va_P D vwCl (mdW bd ce st) H := hP
      have hD : va_D A (mdW bd ce st) := hD
      refine lv_iload_n hx hb d_Mod_expect_13 rfl (lv_at hl 1 rfl) ?_
      refine lv_icmp_eq (tgt := 26) hx hb d_Mod_expect_14 (by decide) (fun c_14 => ?_) (fun c_14 => ?_)
      · skip
        have c_14 : (mSee st = x) := c_14
        refine lv_aload_n hx hb d_Mod_expect_26 rfl (lv_at hl 0 rfl) ?_
        refine lv_dup hx hb d_Mod_expect_27 rfl ?_
        refine va_get (D := D) (ci := 4) (v := .int (gR st 3)) (C := "HeadDeskModel") (T := F_Mod) (N := 38) hx hb hts a_Mod hown hX.1 hP 0 rfl rfl 4 (by decide) (hts _ m_2_221) (fun _ h9 => h9) rfl d_Mod_expect_28 ?_
        refine lv_iconst (v := 1) hx hb d_Mod_expect_31 (by decide) ?_
        refine lv_iadd hx hb d_Mod_expect_32 ?_
        refine va_put (D := D) (ci := 4) (v := .int ((gR st 3) + 1)) (ty := .int) (C := "HeadDeskModel") (T := F_Mod) (N := 38) hx hb hts a_Mod t_Mod k_Mod n_Mod hown hX.1 hP hD hS 0 rfl rfl 4 (by decide) (hts _ m_2_221) (fun _ h9 => h9) rfl (by decide +kernel) rfl rfl (Nat.le_of_ble_eq_true rfl) d_Mod_expect_33 (fun H locs hP hD hS => ?_)
        have hP : va_P D vwCl (mdW bd ce (wR st 3 ((gR st 3) + 1))) H := hP
        have hD : va_D A (mdW bd ce (wR st 3 ((gR st 3) + 1))) := hD
        have i_33 : mInv (wR st 3 ((gR st 3) + 1)) := inv_nx hv (see_lt c_14 hc)
        obtain ⟨s_33, e_33⟩ : ∃ z : MS, z = wR st 3 ((gR st 3) + 1) := ⟨_, rfl⟩
        have hP : va_P D vwCl (mdW bd ce s_33) H := by rw [e_33]; exact hP
        have hD : va_D A (mdW bd ce s_33) := by rw [e_33]; exact hD
        have i_33 : mInv s_33 := by rw [e_33]; exact i_33
        refine lv_iconst (v := 1) hx hb d_Mod_expect_36 (by decide) ?_
        exact hret H locs s_33 true _ _ hP hD hS (pr2 (by first | (simp only [mExp, if_pos c_4, if_pos c_14, ← e_33, fStop, if_true, if_false, Bool.false_eq_true, ↓reduceIte]; done) | (simp only [mExp, if_pos c_4, if_pos c_14, ← e_33, fStop, if_true, if_false, Bool.false_eq_true, ↓reduceIte]; with_reducible rfl) | (simp only [mExp, if_pos c_4, if_pos c_14, ← e_33, fStop, if_true, if_false, Bool.false_eq_true, ↓reduceIte]; rw [e_33]))) d_Mod_expect_37
      · skip
        have c_14 : ¬ (mSee st = x) := c_14
        refine lv_aload_n hx hb d_Mod_expect_17 rfl (lv_at hl 0 rfl) ?_
        refine lv_aload_n hx hb d_Mod_expect_18 rfl (lv_at hl 0 rfl) ?_
        refine va_get (D := D) (ci := 4) (v := .int (gR st 3)) (C := "HeadDeskModel") (T := F_Mod) (N := 38) hx hb hts a_Mod hown hX.1 hP 0 rfl rfl 4 (by decide) (hts _ m_2_221) (fun _ h9 => h9) rfl d_Mod_expect_19 ?_
        refine hx_Vz (wr := []) (As := [.int (gR st 3)]) (rest := []) hI (c_Mod_wrong st hv (gR st 3)) (cw_V (C := "HeadDeskModel") 1 hts m_3_124 m_3_126 ms_29 m_1_5 m_3_127 (by decide +kernel) ⟨by decide, by decide⟩) hX hA hP hD hS [0, 1, 2, 3, 4, 5, 6] [] rfl rfl (by decide) (by decide) (by decide) (va_recv hX.1 hP (ci := 4) (q0 := 0) rfl rfl) rfl hl.1 rfl (Nat.le_of_ble_eq_true rfl) d_Mod_expect_22 ⟨Nat.zero_le _, Nat.zero_le _⟩ (fun H locs hP hD hS => ?_)
        obtain ⟨s_22, e_22⟩ : ∃ z : MS, z = mWr st (gR st 3) := ⟨_, rfl⟩
        have i_22 : mInv s_22 := by rw [e_22]; exact inv_wr hv
        have hP : va_P D vwCl (mdW bd ce s_22) H := by rw [e_22]; exact hP
        have hD : va_D A (mdW bd ce s_22) := by rw [e_22]; exact hD
        exact hret H locs s_22 false _ _ hP hD hS (pr2 (by first | (simp only [mExp, if_pos c_4, if_neg c_14, ← e_22, fStop, if_true, if_false, Bool.false_eq_true, ↓reduceIte]; done) | (simp only [mExp, if_pos c_4, if_neg c_14, ← e_22, fStop, if_true, if_false, Bool.false_eq_true, ↓reduceIte]; with_reducible rfl) | (simp only [mExp, if_pos c_4, if_neg c_14, ← e_22, fStop, if_true, if_false, Bool.false_eq_true, ↓reduceIte]; rw [e_22]))) d_Mod_expect_25
    · skip
      have c_4 : ¬ (gR st 4 = 0) := c_4
      refine lv_iconst (v := 0) hx hb d_Mod_expect_7 (by decide) ?_
      exact hret H locs st false _ _ hP hD hS (pr2 (by first | (simp only [mExp, if_neg c_4, fStop, if_true, if_false, Bool.false_eq_true, ↓reduceIte]; done) | (simp only [mExp, if_neg c_4, fStop, if_true, if_false, Bool.false_eq_true, ↓reduceIte]; with_reducible rfl))) d_Mod_expect_8
  rw [hH, hlo] at goal
  exact goal
