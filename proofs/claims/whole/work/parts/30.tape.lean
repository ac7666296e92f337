variable {l : Launch} {D : va_G} {ad : Nat → Nat} {cd : Nat → ClassId} {adK adV : Nat → Nat} {tF : Nat} {T : TX} {tys : List (ClassId × FieldType)}

set_option maxHeartbeats 4000000 in
set_option maxRecDepth 100000 in
theorem c_Reader_isDigit (x : Int32) : hx_Mz l D tys adK adV tF (fun _ : Unit => []) y_Reader_isDigit w_Reader_isDigit (rmD 1) [.int x] () (isD x) () := by
  refine hx_Mz.of (cc := b_Reader_isDigit) (maxL := 1) (by decide) rfl (Nat.le_of_ble_eq_true rfl) ?_
  intro p e s m below meth c A Q ls hI hX hA hP hD hS hl hret
  obtain ⟨hx, hb, hml, hown, hts⟩ := id hI
  have hts : ∀ w ∈ aw, w.before ([.int x] : List Value).toArray s = true := fun w h => hts w (List.mem_cons_of_mem _ h)
  have hown : s.vm.findClass "HeadDesk$Reader" = some m.cls := hown
  have hI : hx_In p s m ([.int x] : List Value).toArray c b_Reader_isDigit 1 "HeadDesk$Reader" aw := ⟨hx, hb, hml, hown, hts⟩
  have hP : va_P D vwCl ([]) s.heap := hP
  obtain ⟨H, hH⟩ : ∃ H, H = s.heap := ⟨_, rfl⟩
  obtain ⟨locs, hlo⟩ : ∃ locs : List Loc, locs = [] := ⟨_, rfl⟩
  have hS : va_S A s.heap H locs := by rw [hH, hlo]; exact hS
  have hP : va_P D vwCl ([]) H := by rw [hH]; exact hP
  have hl : lv_has ls 1 [(0, .int x)] := hl
  have goal : W p l e (rmD 1) s m ([.int x] : List Value).toArray below meth c H locs 0 0 Q (F0 m 0 ls []) := by
    refine lv_iload_n hx hb d_Reader_isDigit_0 rfl (lv_at hl 0 rfl) ?_
    refine lv_bipush (v := 48) hx hb d_Reader_isDigit_1 (by decide) ?_
    refine lv_icmp_lt (tgt := 16) hx hb d_Reader_isDigit_3 (by decide) (fun c_3 => ?_) (fun c_3 => ?_)
    · skip
      have c_3 : (x < 48) := c_3
      refine lv_iconst (v := 0) hx hb d_Reader_isDigit_16 (by decide) ?_
      exact hret H locs () false _ _ hP hD hS ⟨(by first | (simp only [isD, if_pos c_3, fStop, if_true, if_false, Bool.false_eq_true, ↓reduceIte]; done) | (simp only [isD, if_pos c_3, fStop, if_true, if_false, Bool.false_eq_true, ↓reduceIte]; with_reducible rfl)), rfl⟩ d_Reader_isDigit_17
    · skip
      have c_3 : ¬ (x < 48) := c_3
      refine lv_iload_n hx hb d_Reader_isDigit_6 rfl (lv_at hl 0 rfl) ?_
      refine lv_bipush (v := 57) hx hb d_Reader_isDigit_7 (by decide) ?_
      refine lv_icmp_gt (tgt := 16) hx hb d_Reader_isDigit_9 (by decide) (fun c_9 => ?_) (fun c_9 => ?_)
      · skip
        have c_9 : (57 < x) := c_9
        refine lv_iconst (v := 0) hx hb d_Reader_isDigit_16 (by decide) ?_
        exact hret H locs () false _ _ hP hD hS ⟨(by first | (simp only [isD, if_neg c_3, if_pos c_9, fStop, if_true, if_false, Bool.false_eq_true, ↓reduceIte]; done) | (simp only [isD, if_neg c_3, if_pos c_9, fStop, if_true, if_false, Bool.false_eq_true, ↓reduceIte]; with_reducible rfl)), rfl⟩ d_Reader_isDigit_17
      · skip
        have c_9 : ¬ (57 < x) := c_9
        refine lv_iconst (v := 1) hx hb d_Reader_isDigit_12 (by decide) ?_
        refine lv_goto (tgt := 17) hx hb d_Reader_isDigit_13 (by decide) ?_
        exact hret H locs () true _ _ hP hD hS ⟨(by first | (simp only [isD, if_neg c_3, if_neg c_9, fStop, if_true, if_false, Bool.false_eq_true, ↓reduceIte]; done) | (simp only [isD, if_neg c_3, if_neg c_9, fStop, if_true, if_false, Bool.false_eq_true, ↓reduceIte]; with_reducible rfl)), rfl⟩ d_Reader_isDigit_17
  rw [hH, hlo] at goal
  exact goal
set_option maxHeartbeats 4000000 in
set_option maxRecDepth 100000 in
theorem c_Reader_isLetter (x : Int32) : hx_Mz l D tys adK adV tF (fun _ : Unit => []) y_Reader_isLetter w_Reader_isLetter (rmD 1) [.int x] () (isL x) () := by
  refine hx_Mz.of (cc := b_Reader_isLetter) (maxL := 1) (by decide) rfl (Nat.le_of_ble_eq_true rfl) ?_
  intro p e s m below meth c A Q ls hI hX hA hP hD hS hl hret
  obtain ⟨hx, hb, hml, hown, hts⟩ := id hI
  have hts : ∀ w ∈ aw, w.before ([.int x] : List Value).toArray s = true := fun w h => hts w (List.mem_cons_of_mem _ h)
  have hown : s.vm.findClass "HeadDesk$Reader" = some m.cls := hown
  have hI : hx_In p s m ([.int x] : List Value).toArray c b_Reader_isLetter 1 "HeadDesk$Reader" aw := ⟨hx, hb, hml, hown, hts⟩
  have hP : va_P D vwCl ([]) s.heap := hP
  obtain ⟨H, hH⟩ : ∃ H, H = s.heap := ⟨_, rfl⟩
  obtain ⟨locs, hlo⟩ : ∃ locs : List Loc, locs = [] := ⟨_, rfl⟩
  have hS : va_S A s.heap H locs := by rw [hH, hlo]; exact hS
  have hP : va_P D vwCl ([]) H := by rw [hH]; exact hP
  have hl : lv_has ls 1 [(0, .int x)] := hl
  have goal : W p l e (rmD 1) s m ([.int x] : List Value).toArray below meth c H locs 0 0 Q (F0 m 0 ls []) := by
    refine lv_iload_n hx hb d_Reader_isLetter_0 rfl (lv_at hl 0 rfl) ?_
    refine lv_bipush (v := 97) hx hb d_Reader_isLetter_1 (by decide) ?_
    refine lv_icmp_lt (tgt := 12) hx hb d_Reader_isLetter_3 (by decide) (fun c_3 => ?_) (fun c_3 => ?_)
    · skip
      have c_3 : (x < 97) := c_3
      refine lv_iload_n hx hb d_Reader_isLetter_12 rfl (lv_at hl 0 rfl) ?_
      refine lv_bipush (v := 45) hx hb d_Reader_isLetter_13 (by decide) ?_
      refine lv_icmp_ne (tgt := 22) hx hb d_Reader_isLetter_15 (by decide) (fun c_15 => ?_) (fun c_15 => ?_)
      · skip
        have c_15 : ¬ (x = 45) := c_15
        refine lv_iconst (v := 0) hx hb d_Reader_isLetter_22 (by decide) ?_
        exact hret H locs () false _ _ hP hD hS ⟨(by first | (simp only [isL, if_pos c_3, if_neg c_15, fStop, if_true, if_false, Bool.false_eq_true, ↓reduceIte]; done) | (simp only [isL, if_pos c_3, if_neg c_15, fStop, if_true, if_false, Bool.false_eq_true, ↓reduceIte]; with_reducible rfl)), rfl⟩ d_Reader_isLetter_23
      · skip
        have c_15 : (x = 45) := c_15
        refine lv_iconst (v := 1) hx hb d_Reader_isLetter_18 (by decide) ?_
        refine lv_goto (tgt := 23) hx hb d_Reader_isLetter_19 (by decide) ?_
        exact hret H locs () true _ _ hP hD hS ⟨(by first | (simp only [isL, if_pos c_3, if_pos c_15, fStop, if_true, if_false, Bool.false_eq_true, ↓reduceIte]; done) | (simp only [isL, if_pos c_3, if_pos c_15, fStop, if_true, if_false, Bool.false_eq_true, ↓reduceIte]; with_reducible rfl)), rfl⟩ d_Reader_isLetter_23
    · skip
      have c_3 : ¬ (x < 97) := c_3
      refine lv_iload_n hx hb d_Reader_isLetter_6 rfl (lv_at hl 0 rfl) ?_
      refine lv_bipush (v := 122) hx hb d_Reader_isLetter_7 (by decide) ?_
      refine lv_icmp_le (tgt := 18) hx hb d_Reader_isLetter_9 (by decide) (fun c_9 => ?_) (fun c_9 => ?_)
      · skip
        have c_9 : (x ≤ 122) := c_9
        refine lv_iconst (v := 1) hx hb d_Reader_isLetter_18 (by decide) ?_
        refine lv_goto (tgt := 23) hx hb d_Reader_isLetter_19 (by decide) ?_
        exact hret H locs () true _ _ hP hD hS ⟨(by first | (simp only [isL, if_neg c_3, if_pos c_9, fStop, if_true, if_false, Bool.false_eq_true, ↓reduceIte]; done) | (simp only [isL, if_neg c_3, if_pos c_9, fStop, if_true, if_false, Bool.false_eq_true, ↓reduceIte]; with_reducible rfl)), rfl⟩ d_Reader_isLetter_23
      · skip
        have c_9 : ¬ (x ≤ 122) := c_9
        refine lv_iload_n hx hb d_Reader_isLetter_12 rfl (lv_at hl 0 rfl) ?_
        refine lv_bipush (v := 45) hx hb d_Reader_isLetter_13 (by decide) ?_
        refine lv_icmp_ne (tgt := 22) hx hb d_Reader_isLetter_15 (by decide) (fun c_15 => ?_) (fun c_15 => ?_)
        · skip
          have c_15 : ¬ (x = 45) := c_15
          refine lv_iconst (v := 0) hx hb d_Reader_isLetter_22 (by decide) ?_
          exact hret H locs () false _ _ hP hD hS ⟨(by first | (simp only [isL, if_neg c_3, if_neg c_9, if_neg c_15, fStop, if_true, if_false, Bool.false_eq_true, ↓reduceIte]; done) | (simp only [isL, if_neg c_3, if_neg c_9, if_neg c_15, fStop, if_true, if_false, Bool.false_eq_true, ↓reduceIte]; with_reducible rfl)), rfl⟩ d_Reader_isLetter_23
        · skip
          have c_15 : (x = 45) := c_15
          refine lv_iconst (v := 1) hx hb d_Reader_isLetter_18 (by decide) ?_
          refine lv_goto (tgt := 23) hx hb d_Reader_isLetter_19 (by decide) ?_
          exact hret H locs () true _ _ hP hD hS ⟨(by first | (simp only [isL, if_neg c_3, if_neg c_9, if_pos c_15, fStop, if_true, if_false, Bool.false_eq_true, ↓reduceIte]; done) | (simp only [isL, if_neg c_3, if_neg c_9, if_pos c_15, fStop, if_true, if_false, Bool.false_eq_true, ↓reduceIte]; with_reducible rfl)), rfl⟩ d_Reader_isLetter_23
  rw [hH, hlo] at goal
  exact goal
set_option maxHeartbeats 4000000 in
set_option maxRecDepth 100000 in
theorem c_Tape_mayStand (x : Int32) : hx_Mz l D tys adK adV tF (fun _ : Unit => []) y_Tape_mayStand w_Tape_mayStand (rmD 1) [.int x] () (mayS x) () := by
  refine hx_Mz.of (cc := b_Tape_mayStand) (maxL := 1) (by decide) rfl (Nat.le_of_ble_eq_true rfl) ?_
  intro p e s m below meth c A Q ls hI hX hA hP hD hS hl hret
  obtain ⟨hx, hb, hml, hown, hts⟩ := id hI
  have hts : ∀ w ∈ aw, w.before ([.int x] : List Value).toArray s = true := fun w h => hts w (List.mem_cons_of_mem _ h)
  have hown : s.vm.findClass "HeadDesk$Tape" = some m.cls := hown
  have hI : hx_In p s m ([.int x] : List Value).toArray c b_Tape_mayStand 1 "HeadDesk$Tape" aw := ⟨hx, hb, hml, hown, hts⟩
  have hP : va_P D vwCl ([]) s.heap := hP
  obtain ⟨H, hH⟩ : ∃ H, H = s.heap := ⟨_, rfl⟩
  obtain ⟨locs, hlo⟩ : ∃ locs : List Loc, locs = [] := ⟨_, rfl⟩
  have hS : va_S A s.heap H locs := by rw [hH, hlo]; exact hS
  have hP : va_P D vwCl ([]) H := by rw [hH]; exact hP
  have hl : lv_has ls 1 [(0, .int x)] := hl
  have goal : W p l e (rmD 1) s m ([.int x] : List Value).toArray below meth c H locs 0 0 Q (F0 m 0 ls []) := by
    refine lv_iload_n hx hb d_Tape_mayStand_0 rfl (lv_at hl 0 rfl) ?_
    refine lv_bipush (v := 10) hx hb d_Tape_mayStand_1 (by decide) ?_
    refine lv_icmp_eq (tgt := 18) hx hb d_Tape_mayStand_3 (by decide) (fun c_3 => ?_) (fun c_3 => ?_)
    · skip
      have c_3 : (x = 10) := c_3
      refine lv_iconst (v := 1) hx hb d_Tape_mayStand_18 (by decide) ?_
      refine lv_goto (tgt := 23) hx hb d_Tape_mayStand_19 (by decide) ?_
      exact hret H locs () true _ _ hP hD hS ⟨(by first | (simp only [mayS, if_pos c_3, fStop, if_true, if_false, Bool.false_eq_true, ↓reduceIte]; done) | (simp only [mayS, if_pos c_3, fStop, if_true, if_false, Bool.false_eq_true, ↓reduceIte]; with_reducible rfl)), rfl⟩ d_Tape_mayStand_23
    · skip
      have c_3 : ¬ (x = 10) := c_3
      refine lv_iload_n hx hb d_Tape_mayStand_6 rfl (lv_at hl 0 rfl) ?_
      refine lv_bipush (v := 32) hx hb d_Tape_mayStand_7 (by decide) ?_
      refine lv_icmp_lt (tgt := 22) hx hb d_Tape_mayStand_9 (by decide) (fun c_9 => ?_) (fun c_9 => ?_)
      · skip
        have c_9 : (x < 32) := c_9
        refine lv_iconst (v := 0) hx hb d_Tape_mayStand_22 (by decide) ?_
        exact hret H locs () false _ _ hP hD hS ⟨(by first | (simp only [mayS, if_neg c_3, if_pos c_9, fStop, if_true, if_false, Bool.false_eq_true, ↓reduceIte]; done) | (simp only [mayS, if_neg c_3, if_pos c_9, fStop, if_true, if_false, Bool.false_eq_true, ↓reduceIte]; with_reducible rfl)), rfl⟩ d_Tape_mayStand_23
      · skip
        have c_9 : ¬ (x < 32) := c_9
        refine lv_iload_n hx hb d_Tape_mayStand_12 rfl (lv_at hl 0 rfl) ?_
        refine lv_bipush (v := 126) hx hb d_Tape_mayStand_13 (by decide) ?_
        refine lv_icmp_gt (tgt := 22) hx hb d_Tape_mayStand_15 (by decide) (fun c_15 => ?_) (fun c_15 => ?_)
        · skip
          have c_15 : (126 < x) := c_15
          refine lv_iconst (v := 0) hx hb d_Tape_mayStand_22 (by decide) ?_
          exact hret H locs () false _ _ hP hD hS ⟨(by first | (simp only [mayS, if_neg c_3, if_neg c_9, if_pos c_15, fStop, if_true, if_false, Bool.false_eq_true, ↓reduceIte]; done) | (simp only [mayS, if_neg c_3, if_neg c_9, if_pos c_15, fStop, if_true, if_false, Bool.false_eq_true, ↓reduceIte]; with_reducible rfl)), rfl⟩ d_Tape_mayStand_23
        · skip
          have c_15 : ¬ (126 < x) := c_15
          refine lv_iconst (v := 1) hx hb d_Tape_mayStand_18 (by decide) ?_
          refine lv_goto (tgt := 23) hx hb d_Tape_mayStand_19 (by decide) ?_
          exact hret H locs () true _ _ hP hD hS ⟨(by first | (simp only [mayS, if_neg c_3, if_neg c_9, if_neg c_15, fStop, if_true, if_false, Bool.false_eq_true, ↓reduceIte]; done) | (simp only [mayS, if_neg c_3, if_neg c_9, if_neg c_15, fStop, if_true, if_false, Bool.false_eq_true, ↓reduceIte]; with_reducible rfl)), rfl⟩ d_Tape_mayStand_23
  rw [hH, hlo] at goal
  exact goal
set_option maxHeartbeats 4000000 in
set_option maxRecDepth 100000 in
theorem c_Tape_byteOf (q : Int64) (x : Int32) : hx_Mi l D tys adK adV tF (fun _ : Unit => []) y_Tape_byteOf w_Tape_byteOf (rmD 1) [.long q, .int x] () (byW q x) () := by
  refine hx_Mi.of (cc := b_Tape_byteOf) (maxL := 3) rfl (by decide) rfl (Nat.le_of_ble_eq_true rfl) ?_
  intro p e s m below meth c A Q ls hI hX hA hP hD hS hl hret
  obtain ⟨hx, hb, hml, hown, hts⟩ := id hI
  have hts : ∀ w ∈ aw, w.before ([.long q, .int x] : List Value).toArray s = true := fun w h => hts w (List.mem_cons_of_mem _ h)
  have hown : s.vm.findClass "HeadDesk$Tape" = some m.cls := hown
  have hI : hx_In p s m ([.long q, .int x] : List Value).toArray c b_Tape_byteOf 3 "HeadDesk$Tape" aw := ⟨hx, hb, hml, hown, hts⟩
  have hP : va_P D vwCl ([]) s.heap := hP
  obtain ⟨H, hH⟩ : ∃ H, H = s.heap := ⟨_, rfl⟩
  obtain ⟨locs, hlo⟩ : ∃ locs : List Loc, locs = [] := ⟨_, rfl⟩
  have hS : va_S A s.heap H locs := by rw [hH, hlo]; exact hS
  have hP : va_P D vwCl ([]) H := by rw [hH]; exact hP
  have hl : lv_has ls 3 [(0, .long q), (2, .int x)] := hl
  have goal : W p l e (rmD 1) s m ([.long q, .int x] : List Value).toArray below meth c H locs 0 0 Q (F0 m 0 ls []) := by
    refine lv_lload_n hx hb d_Tape_byteOf_0 rfl (lv_at hl 0 rfl) ?_
    refine lv_bipush (v := 8) hx hb d_Tape_byteOf_1 (by decide) ?_
    refine lv_iload_n hx hb d_Tape_byteOf_3 rfl (lv_at hl 1 rfl) ?_
    refine lv_imul hx hb d_Tape_byteOf_4 ?_
    refine lv_lushr (v := (q.toUInt64 >>> ((8 * x).toInt64.toUInt64 &&& Int64.toUInt64 63)).toInt64) hx hb d_Tape_byteOf_5 rfl ?_
    refine lv_l2i (v := ((q.toUInt64 >>> ((8 * x).toInt64.toUInt64 &&& Int64.toUInt64 63)).toInt64).toInt32) hx hb d_Tape_byteOf_6 rfl ?_
    refine lv_sipush (v := 255) hx hb d_Tape_byteOf_7 (by decide) ?_
    refine lv_iand hx hb d_Tape_byteOf_10 ?_
    exact hret H locs () ((((q.toUInt64 >>> ((8 * x).toInt64.toUInt64 &&& Int64.toUInt64 63)).toInt64).toInt32) &&& 255) _ _ hP hD hS ⟨(by first | (simp only [byW, fStop, if_true, if_false, Bool.false_eq_true, ↓reduceIte]; done) | (simp only [byW, fStop, if_true, if_false, Bool.false_eq_true, ↓reduceIte]; with_reducible rfl)), rfl⟩ d_Tape_byteOf_11
  rw [hH, hlo] at goal
  exact goal
set_option maxHeartbeats 4000000 in
set_option maxRecDepth 100000 in
theorem c_Tape_markAt (hT : T.2 ≤ 300) (x : Int32) : hx_Mi l D (tyH cd) adK adV tF (tpW ad cd) y_Tape_markAt w_Tape_markAt (rmD 1) [.ref (ad 1), .int x] T (mAt T x) T := by
  refine hx_Mi.of (cc := b_Tape_markAt) (maxL := 2) rfl (by decide) rfl (Nat.le_of_ble_eq_true rfl) ?_
  intro p e s m below meth c A Q ls hI hX hA hP hD hS hl hret
  obtain ⟨hx, hb, hml, hown, hts⟩ := id hI
  have hts : ∀ w ∈ aw, w.before ([.ref (ad 1), .int x] : List Value).toArray s = true := fun w h => hts w (List.mem_cons_of_mem _ h)
  have hown : s.vm.findClass "HeadDesk$Tape" = some m.cls := hown
  have hI : hx_In p s m ([.ref (ad 1), .int x] : List Value).toArray c b_Tape_markAt 2 "HeadDesk$Tape" aw := ⟨hx, hb, hml, hown, hts⟩
  have hP : va_P D vwCl (tpW ad cd T) s.heap := hP
  obtain ⟨H, hH⟩ : ∃ H, H = s.heap := ⟨_, rfl⟩
  obtain ⟨locs, hlo⟩ : ∃ locs : List Loc, locs = [] := ⟨_, rfl⟩
  have hS : va_S A s.heap H locs := by rw [hH, hlo]; exact hS
  have hP : va_P D vwCl (tpW ad cd T) H := by rw [hH]; exact hP
  have hl : lv_has ls 2 [(0, .ref (ad 1)), (1, .int x)] := hl
  have goal : W p l e (rmD 1) s m ([.ref (ad 1), .int x] : List Value).toArray below meth c H locs 0 0 Q (F0 m 0 ls []) := by
    refine lv_iload_n hx hb d_Tape_markAt_0 rfl (lv_at hl 1 rfl) ?_
    refine lv_if_lt (tgt := 21) hx hb d_Tape_markAt_1 (by decide) (fun c_1 => ?_) (fun c_1 => ?_)
    · skip
      have c_1 : (x < 0) := c_1
      refine lv_iconst (v := (-1)) hx hb d_Tape_markAt_21 (by decide) ?_
      exact hret H locs T (-1) _ _ hP hD hS ⟨(by first | (simp only [mAt, if_pos c_1, fStop, if_true, if_false, Bool.false_eq_true, ↓reduceIte]; done) | (simp only [mAt, if_pos c_1, fStop, if_true, if_false, Bool.false_eq_true, ↓reduceIte]; with_reducible rfl)), rfl⟩ d_Tape_markAt_22
    · skip
      have c_1 : ¬ (x < 0) := c_1
      refine lv_iload_n hx hb d_Tape_markAt_4 rfl (lv_at hl 1 rfl) ?_
      refine lv_aload_n hx hb d_Tape_markAt_5 rfl (lv_at hl 0 rfl) ?_
      refine va_get (D := D) (ci := 2) (v := .int T.2) (C := "HeadDesk$Tape") (T := F_Tape) (N := 2) hx hb hts a_Tape hown hX.1 hP 0 rfl rfl 1 (by decide) (hts _ m_1_37) (fun _ h9 => h9) rfl d_Tape_markAt_6 ?_
      refine lv_icmp_ge (tgt := 21) hx hb d_Tape_markAt_9 (by decide) (fun c_9 => ?_) (fun c_9 => ?_)
      · skip
        have c_9 : (T.2 ≤ x) := c_9
        refine lv_iconst (v := (-1)) hx hb d_Tape_markAt_21 (by decide) ?_
        exact hret H locs T (-1) _ _ hP hD hS ⟨(by first | (simp only [mAt, if_neg c_1, if_pos c_9, fStop, if_true, if_false, Bool.false_eq_true, ↓reduceIte]; done) | (simp only [mAt, if_neg c_1, if_pos c_9, fStop, if_true, if_false, Bool.false_eq_true, ↓reduceIte]; with_reducible rfl)), rfl⟩ d_Tape_markAt_22
      · skip
        have c_9 : ¬ (T.2 ≤ x) := c_9
        refine lv_aload_n hx hb d_Tape_markAt_12 rfl (lv_at hl 0 rfl) ?_
        refine va_get (D := D) (ci := 2) (v := .ref (ad 2)) (C := "HeadDesk$Tape") (T := F_Tape) (N := 2) hx hb hts a_Tape hown hX.1 hP 0 rfl rfl 0 (by decide) (hts _ m_1_36) (fun _ h9 => h9) rfl d_Tape_markAt_13 ?_
        refine lv_iload_n hx hb d_Tape_markAt_16 rfl (lv_at hl 1 rfl) ?_
        refine va_cald hx hb hX.1 hP 1 0 rfl rfl (mAt_in hT c_1 c_9) d_Tape_markAt_17 ?_
        refine lv_goto (tgt := 22) hx hb d_Tape_markAt_18 (by decide) ?_
        exact hret H locs T (T.1 x.toNatClampNeg) _ _ hP hD hS ⟨(by first | (simp only [mAt, if_neg c_1, if_neg c_9, fStop, if_true, if_false, Bool.false_eq_true, ↓reduceIte]; done) | (simp only [mAt, if_neg c_1, if_neg c_9, fStop, if_true, if_false, Bool.false_eq_true, ↓reduceIte]; with_reducible rfl)), rfl⟩ d_Tape_markAt_22
  rw [hH, hlo] at goal
  exact goal
set_option maxHeartbeats 4000000 in
set_option maxRecDepth 100000 in
theorem c_Tape_append (hT : T.2 ≤ 300) (hT0 : 0 ≤ T.2) (q : Int64) (x : Int32) : hx_Mz l D (tyH cd) adK adV tF (tpW ad cd) y_Tape_append w_Tape_append (rmD 2) [.ref (ad 1), .long q, .int x] T ((fApp T q x).1) ((fApp T q x).2) := by
  refine hx_Mz.of (cc := b_Tape_append) (maxL := 5) (by decide) rfl (Nat.le_of_ble_eq_true rfl) ?_
  intro p e s m below meth c A Q ls hI hX hA hP hD hS hl hret
  obtain ⟨hx, hb, hml, hown, hts⟩ := id hI
  have hts : ∀ w ∈ aw, w.before ([.ref (ad 1), .long q, .int x] : List Value).toArray s = true := fun w h => hts w (List.mem_cons_of_mem _ h)
  have hown : s.vm.findClass "HeadDesk$Tape" = some m.cls := hown
  have hI : hx_In p s m ([.ref (ad 1), .long q, .int x] : List Value).toArray c b_Tape_append 5 "HeadDesk$Tape" aw := ⟨hx, hb, hml, hown, hts⟩
  have hP : va_P D vwCl (tpW ad cd T) s.heap := hP
  obtain ⟨H, hH⟩ : ∃ H, H = s.heap := ⟨_, rfl⟩
  obtain ⟨locs, hlo⟩ : ∃ locs : List Loc, locs = [] := ⟨_, rfl⟩
  have hS : va_S A s.heap H locs := by rw [hH, hlo]; exact hS
  have hP : va_P D vwCl (tpW ad cd T) H := by rw [hH]; exact hP
  have hl : lv_has ls 5 [(0, .ref (ad 1)), (1, .long q), (3, .int x)] := hl
  have goal : W p l e (rmD 2) s m ([.ref (ad 1), .long q, .int x] : List Value).toArray below meth c H locs 0 0 Q (F0 m 0 ls []) := by
    refine lv_iload_n hx hb d_Tape_append_0 rfl (lv_at hl 2 rfl) ?_
    refine lv_iconst (v := 1) hx hb d_Tape_append_1 (by decide) ?_
    refine lv_icmp_lt (tgt := 23) hx hb d_Tape_append_2 (by decide) (fun c_2 => ?_) (fun c_2 => ?_)
    · skip
      have c_2 : (x < 1) := c_2
      refine lv_iconst (v := 0) hx hb d_Tape_append_23 (by decide) ?_
      exact hret H locs T false _ _ hP hD hS (pr2 (by first | (simp only [fApp, if_pos c_2, fStop, if_true, if_false, Bool.false_eq_true, ↓reduceIte]; done) | (simp only [fApp, if_pos c_2, fStop, if_true, if_false, Bool.false_eq_true, ↓reduceIte]; with_reducible rfl))) d_Tape_append_24
    · skip
      have c_2 : ¬ (x < 1) := c_2
      refine lv_iload_n hx hb d_Tape_append_5 rfl (lv_at hl 2 rfl) ?_
      refine lv_bipush (v := 8) hx hb d_Tape_append_6 (by decide) ?_
      refine lv_icmp_gt (tgt := 23) hx hb d_Tape_append_8 (by decide) (fun c_8 => ?_) (fun c_8 => ?_)
      · skip
        have c_8 : (8 < x) := c_8
        refine lv_iconst (v := 0) hx hb d_Tape_append_23 (by decide) ?_
        exact hret H locs T false _ _ hP hD hS (pr2 (by first | (simp only [fApp, if_neg c_2, if_pos c_8, fStop, if_true, if_false, Bool.false_eq_true, ↓reduceIte]; done) | (simp only [fApp, if_neg c_2, if_pos c_8, fStop, if_true, if_false, Bool.false_eq_true, ↓reduceIte]; with_reducible rfl))) d_Tape_append_24
      · skip
        have c_8 : ¬ (8 < x) := c_8
        refine lv_iload_n hx hb d_Tape_append_11 rfl (lv_at hl 2 rfl) ?_
        refine lv_sipush (v := 300) hx hb d_Tape_append_12 (by decide) ?_
        refine lv_aload_n hx hb d_Tape_append_15 rfl (lv_at hl 0 rfl) ?_
        refine va_get (D := D) (ci := 2) (v := .int T.2) (C := "HeadDesk$Tape") (T := F_Tape) (N := 2) hx hb hts a_Tape hown hX.1 hP 0 rfl rfl 1 (by decide) (hts _ m_1_37) (fun _ h9 => h9) rfl d_Tape_append_16 ?_
        refine lv_isub hx hb d_Tape_append_19 ?_
        refine lv_icmp_le (tgt := 25) hx hb d_Tape_append_20 (by decide) (fun c_20 => ?_) (fun c_20 => ?_)
        · skip
          have c_20 : (x ≤ 300 - T.2) := c_20
          have hap := ap_st c_2 c_8 hT0 hT c_20
          refine lv_iconst (v := 0) hx hb d_Tape_append_25 (by decide) ?_
          refine lv_istore (lv' := [(4, .int 0), (0, .ref (ad 1)), (1, .long q), (3, .int x)]) hx hb d_Tape_append_26 hl (by decide) rfl (fun ls hl => ?_)
          have loop28 : ∀ (k : Nat) (j : Nat) (H : Heap) (locs : List Loc) (ls : Array Slot), j + k = x.toNatClampNeg → fApp T q x = (if appOk q k j = true then (true, appW q x.toNatClampNeg T) else (false, T)) → va_P D vwCl (tpW ad cd T) H → va_D A (tpW ad cd T) → va_S A s.heap H locs → lv_has ls 5 [(4, .int (nI j)), (0, .ref (ad 1)), (1, .long q), (3, .int x)] → W p l e (rmD 2) s m ([.ref (ad 1), .long q, .int x] : List Value).toArray below meth c H locs 0 0 Q (F0 m 28 ls []) := by
            intro k
            induction k with
            | zero =>
              intro j H locs ls hj hF hP hD hS hl
              refine lv_iload hx hb d_Tape_append_28 (lv_at hl 0 rfl) ?_
              refine lv_iload_n hx hb d_Tape_append_30 rfl (lv_at hl 3 rfl) ?_
              refine lv_icmp_ge (tgt := 54) hx hb d_Tape_append_31 (by decide) (fun c_31 => ?_) (fun c_31 => ?_)
              · skip
                have c_31 : (x ≤ nI j) := c_31
                refine lv_iload_n hx hb d_Tape_append_54 rfl (lv_at hl 3 rfl) ?_
                refine lv_iconst (v := 1) hx hb d_Tape_append_55 (by decide) ?_
                refine lv_isub hx hb d_Tape_append_56 ?_
                refine hx_top (v := nI x.toNatClampNeg - 1) (by rw [← hap.2.1]) ?_
                refine lv_istore (lv' := [(4, .int (nI x.toNatClampNeg - 1)), (0, .ref (ad 1)), (1, .long q), (3, .int x)]) hx hb d_Tape_append_57 hl (by decide) rfl (fun ls hl => ?_)
                have loop59 : ∀ (k : Nat) (s1 : TX) (H : Heap) (locs : List Loc) (ls : Array Slot), 0 ≤ s1.2 ∧ s1.2.toInt + (k : Int) ≤ 300 → fApp T q x = (true, appW q k s1) → va_P D vwCl (tpW ad cd s1) H → va_D A (tpW ad cd s1) → va_S A s.heap H locs → lv_has ls 5 [(4, .int (nI k - 1)), (0, .ref (ad 1)), (1, .long q), (3, .int x)] → W p l e (rmD 2) s m ([.ref (ad 1), .long q, .int x] : List Value).toArray below meth c H locs 0 0 Q (F0 m 59 ls []) := by
                  intro k
                  induction k with
                  | zero =>
                    intro s1 H locs ls hk hF hP hD hS hl
                    refine lv_iload hx hb d_Tape_append_59 (lv_at hl 0 rfl) ?_
                    refine lv_if_lt (tgt := 96) hx hb d_Tape_append_61 (by decide) (fun c_61 => ?_) (fun c_61 => ?_)
                    · skip
                      have c_61 : (nI 0 - 1 < 0) := c_61
                      refine lv_iconst (v := 1) hx hb d_Tape_append_96 (by decide) ?_
                      exact hret H locs s1 true _ _ hP hD hS (pr2 (by first | (rw [hF]; ((try simp only [appW]) <;> simp only [appW, if_pos c_61, fStop, if_true, if_false, Bool.false_eq_true, ↓reduceIte]); done) | (rw [hF]; ((try simp only [appW]) <;> simp only [appW, if_pos c_61, fStop, if_true, if_false, Bool.false_eq_true, ↓reduceIte]); with_reducible rfl))) d_Tape_append_97
                    · skip
                      exact absurd (by decide) c_61
                  | succ k ih =>
                    intro s1 H locs ls hk hF hP hD hS hl
                    have hl : lv_has ls 5 [(4, .int (nI k)), (0, .ref (ad 1)), (1, .long q), (3, .int x)] := by rw [nI_pred] at hl; exact hl
                    refine lv_iload hx hb d_Tape_append_59 (lv_at hl 0 rfl) ?_
                    refine lv_if_lt (tgt := 96) hx hb d_Tape_append_61 (by decide) (fun c_61 => ?_) (fun c_61 => ?_)
                    · skip
                      exact absurd c_61 (nI_pos (ap_k hk.1 hk.2))
                    · skip
                      have c_61 : ¬ (nI k < 0) := c_61
                      refine lv_aload_n hx hb d_Tape_append_64 rfl (lv_at hl 1 rfl) ?_
                      refine va_get (D := D) (ci := 2) (v := .ref (ad 2)) (C := "HeadDesk$Tape") (T := F_Tape) (N := 2) hx hb hts a_Tape hown hX.1 hP 0 rfl rfl 0 (by decide) (hts _ m_1_36) (fun _ h9 => h9) rfl d_Tape_append_65 ?_
                      refine lv_aload_n hx hb d_Tape_append_68 rfl (lv_at hl 1 rfl) ?_
                      refine va_get (D := D) (ci := 2) (v := .int s1.2) (C := "HeadDesk$Tape") (T := F_Tape) (N := 2) hx hb hts a_Tape hown hX.1 hP 0 rfl rfl 1 (by decide) (hts _ m_1_37) (fun _ h9 => h9) rfl d_Tape_append_69 ?_
                      refine lv_lload_n hx hb d_Tape_append_72 rfl (lv_at hl 2 rfl) ?_
                      refine lv_iload hx hb d_Tape_append_73 (lv_at hl 0 rfl) ?_
                      refine hx_Si (wr := [(ad 1, .inr (2, [.ref (ad 2), .int (s1.2)])), (ad 2, .inl (cd 0, 300, .inl s1.1))]) (As := [.long q, .int (nI k)]) (rest := [.int s1.2, .ref (ad 2)]) hI (c_Tape_byteOf q (nI k)) (cw_S 2 hts m_1_121 m_1_122 m_1_3 m_1_123 (by decide +kernel) ⟨by decide, by decide⟩) hX hA hP hD hS [] [0, 1] rfl rfl (by decide) (by decide) (by decide) rfl hl.1 rfl (Nat.le_of_ble_eq_true rfl) d_Tape_append_75 ⟨Nat.zero_le _, Nat.zero_le _⟩ (fun H locs hP hD hS => ?_)
                      have hP : va_P D vwCl (tpW ad cd s1) H := hP.sub [0, 1] rfl
                      have hD : va_D A (tpW ad cd s1) := hD.sub [0, 1] (by decide) rfl
                      refine lv_i2c (v := ((byW q (nI k)).toUInt32 % 65536).toInt32) hx hb d_Tape_append_78 rfl ?_
                      refine va_cast hx hb hX.1 hP hD hS 1 0 rfl rfl (ap_in hk.1 hk.2) d_Tape_append_79 (fun H locs hP hD hS => ?_)
                      have hP : va_P D vwCl (tpW ad cd (upd s1.1 s1.2.toNatClampNeg (vp_nar .char (((byW q (nI k)).toUInt32 % 65536).toInt32)), s1.2)) H := hP
                      have hD : va_D A (tpW ad cd (upd s1.1 s1.2.toNatClampNeg (vp_nar .char (((byW q (nI k)).toUInt32 % 65536).toInt32)), s1.2)) := hD
                      refine lv_aload_n hx hb d_Tape_append_80 rfl (lv_at hl 1 rfl) ?_
                      refine lv_dup hx hb d_Tape_append_81 rfl ?_
                      refine va_get (D := D) (ci := 2) (v := .int s1.2) (C := "HeadDesk$Tape") (T := F_Tape) (N := 2) hx hb hts a_Tape hown hX.1 hP 0 rfl rfl 1 (by decide) (hts _ m_1_37) (fun _ h9 => h9) rfl d_Tape_append_82 ?_
                      refine lv_iconst (v := 1) hx hb d_Tape_append_85 (by decide) ?_
                      refine lv_iadd hx hb d_Tape_append_86 ?_
                      refine va_put (D := D) (ci := 2) (v := .int (s1.2 + 1)) (ty := .int) (C := "HeadDesk$Tape") (T := F_Tape) (N := 2) hx hb hts a_Tape t_Tape k_Tape n_Tape hown hX.1 hP hD hS 0 rfl rfl 1 (by decide) (hts _ m_1_37) (fun _ h9 => h9) rfl (by decide +kernel) rfl rfl (Nat.le_of_ble_eq_true rfl) d_Tape_append_87 (fun H locs hP hD hS => ?_)
                      have hP : va_P D vwCl (tpW ad cd ((upd s1.1 s1.2.toNatClampNeg (vp_nar .char (((byW q (nI k)).toUInt32 % 65536).toInt32)), s1.2).1, s1.2 + 1)) H := hP
                      have hD : va_D A (tpW ad cd ((upd s1.1 s1.2.toNatClampNeg (vp_nar .char (((byW q (nI k)).toUInt32 % 65536).toInt32)), s1.2).1, s1.2 + 1)) := hD
                      refine lv_iinc (v := nI k - 1) (lv' := [(4, .int (nI k - 1)), (0, .ref (ad 1)), (1, .long q), (3, .int x)]) hx hb d_Tape_append_90 hl (k := 0) rfl (i_m1 _) (by decide) rfl (fun ls hl => ?_)
                      refine lv_goto (tgt := 59) hx hb d_Tape_append_93 (by decide) ?_
                      exact ih ((upd s1.1 s1.2.toNatClampNeg (vp_nar .char (((byW q (nI k)).toUInt32 % 65536).toInt32)), s1.2).1, s1.2 + 1) H locs ls (ap_nx hk.1 hk.2) (by rw [hF]; rfl) hP hD hS (lv_sub hl [0, 1, 2, 3] rfl)
                exact loop59 x.toNatClampNeg  T H locs ls (⟨hT0, hap.1⟩) (by rw [hF]; simp only [appOk, if_true, ↓reduceIte]) hP hD hS (lv_sub hl [0, 1, 2, 3] rfl)
              · skip
                exact absurd (nI_cyes (by omega) (by have := cl_le x; omega)) c_31
            | succ k ih =>
              intro j H locs ls hj hF hP hD hS hl
              refine lv_iload hx hb d_Tape_append_28 (lv_at hl 0 rfl) ?_
              refine lv_iload_n hx hb d_Tape_append_30 rfl (lv_at hl 3 rfl) ?_
              refine lv_icmp_ge (tgt := 54) hx hb d_Tape_append_31 (by decide) (fun c_31 => ?_) (fun c_31 => ?_)
              · skip
                exact absurd c_31 (nI_cno (by omega))
              · skip
                have c_31 : ¬ (x ≤ nI j) := c_31
                refine lv_lload_n hx hb d_Tape_append_34 rfl (lv_at hl 2 rfl) ?_
                refine lv_iload hx hb d_Tape_append_35 (lv_at hl 0 rfl) ?_
                refine hx_Si (wr := [(ad 1, .inr (2, [.ref (ad 2), .int (T.2)])), (ad 2, .inl (cd 0, 300, .inl T.1))]) (As := [.long q, .int (nI j)]) (rest := []) hI (c_Tape_byteOf q (nI j)) (cw_S 2 hts m_1_121 m_1_122 m_1_3 m_1_123 (by decide +kernel) ⟨by decide, by decide⟩) hX hA hP hD hS [] [0, 1] rfl rfl (by decide) (by decide) (by decide) rfl hl.1 rfl (Nat.le_of_ble_eq_true rfl) d_Tape_append_37 ⟨Nat.zero_le _, Nat.zero_le _⟩ (fun H locs hP hD hS => ?_)
                have hP : va_P D vwCl (tpW ad cd T) H := hP.sub [0, 1] rfl
                have hD : va_D A (tpW ad cd T) := hD.sub [0, 1] (by decide) rfl
                refine hx_Sz (wr := [(ad 1, .inr (2, [.ref (ad 2), .int (T.2)])), (ad 2, .inl (cd 0, 300, .inl T.1))]) (As := [.int (byW q (nI j))]) (rest := []) hI (c_Tape_mayStand (byW q (nI j))) (cw_S 1 hts m_1_124 m_1_125 m_1_3 m_1_126 (by decide +kernel) ⟨by decide, by decide⟩) hX hA hP hD hS [] [0, 1] rfl rfl (by decide) (by decide) (by decide) rfl hl.1 rfl (Nat.le_of_ble_eq_true rfl) d_Tape_append_40 ⟨Nat.zero_le _, Nat.zero_le _⟩ (fun H locs hP hD hS => ?_)
                have hP : va_P D vwCl (tpW ad cd T) H := hP.sub [0, 1] rfl
                have hD : va_D A (tpW ad cd T) := hD.sub [0, 1] (by decide) rfl
                refine lv_if_ne (tgt := 48) hx hb d_Tape_append_43 (by decide) (fun c_43 => ?_) (fun c_43 => ?_)
                · skip
                  have c_43 : (mayS (byW q (nI j))) = true := bI_1 c_43
                  refine lv_iinc (v := nI (j + 1)) (lv' := [(4, .int (nI (j + 1))), (0, .ref (ad 1)), (1, .long q), (3, .int x)]) hx hb d_Tape_append_48 hl (k := 0) rfl (by rw [nI_succ]; rfl) (by decide) rfl (fun ls hl => ?_)
                  refine lv_goto (tgt := 28) hx hb d_Tape_append_51 (by decide) ?_
                  exact ih (j + 1)  H locs ls (by omega)  (by first | (rw [hF]; ((try simp only [appOk]) <;> simp only [appOk, if_neg c_31, c_43, fStop, if_true, if_false, Bool.false_eq_true, ↓reduceIte]); done) | (rw [hF]; ((try simp only [appOk]) <;> simp only [appOk, if_neg c_31, c_43, fStop, if_true, if_false, Bool.false_eq_true, ↓reduceIte]); with_reducible rfl)) hP hD hS (lv_sub hl [0, 1, 2, 3] rfl)
                · skip
                  have c_43 : (mayS (byW q (nI j))) = false := bI_0 c_43
                  refine lv_iconst (v := 0) hx hb d_Tape_append_46 (by decide) ?_
                  exact hret H locs T false _ _ hP hD hS (pr2 (by first | (rw [hF]; ((try simp only [appOk]) <;> simp only [appOk, if_neg c_31, c_43, fStop, if_true, if_false, Bool.false_eq_true, ↓reduceIte]); done) | (rw [hF]; ((try simp only [appOk]) <;> simp only [appOk, if_neg c_31, c_43, fStop, if_true, if_false, Bool.false_eq_true, ↓reduceIte]); with_reducible rfl))) d_Tape_append_47
          exact loop28 x.toNatClampNeg 0  H locs ls (by omega) (by simp only [fApp, if_neg c_2, if_neg c_8, if_pos c_20]) hP hD hS (lv_sub hl [0, 1, 2, 3] rfl)
        · skip
          have c_20 : ¬ (x ≤ 300 - T.2) := c_20
          refine lv_iconst (v := 0) hx hb d_Tape_append_23 (by decide) ?_
          exact hret H locs T false _ _ hP hD hS (pr2 (by first | (simp only [fApp, if_neg c_2, if_neg c_8, if_neg c_20, fStop, if_true, if_false, Bool.false_eq_true, ↓reduceIte]; done) | (simp only [fApp, if_neg c_2, if_neg c_8, if_neg c_20, fStop, if_true, if_false, Bool.false_eq_true, ↓reduceIte]; with_reducible rfl))) d_Tape_append_24
  rw [hH, hlo] at goal
  exact goal
set_option maxHeartbeats 4000000 in
set_option maxRecDepth 100000 in
theorem c_Tape_empty  : hx_Mv l D (tyH cd) adK adV tF (tpW ad cd) y_Tape_empty w_Tape_empty (rmD 1) [.ref (ad 1)] T (T.1, 0) := by
  refine hx_Mv.of (cc := b_Tape_empty) (maxL := 1) (by decide) rfl (Nat.le_of_ble_eq_true rfl) ?_
  intro p e s m below meth c A Q ls hI hX hA hP hD hS hl hret
  obtain ⟨hx, hb, hml, hown, hts⟩ := id hI
  have hts : ∀ w ∈ aw, w.before ([.ref (ad 1)] : List Value).toArray s = true := fun w h => hts w (List.mem_cons_of_mem _ h)
  have hown : s.vm.findClass "HeadDesk$Tape" = some m.cls := hown
  have hI : hx_In p s m ([.ref (ad 1)] : List Value).toArray c b_Tape_empty 1 "HeadDesk$Tape" aw := ⟨hx, hb, hml, hown, hts⟩
  have hP : va_P D vwCl (tpW ad cd T) s.heap := hP
  obtain ⟨H, hH⟩ : ∃ H, H = s.heap := ⟨_, rfl⟩
  obtain ⟨locs, hlo⟩ : ∃ locs : List Loc, locs = [] := ⟨_, rfl⟩
  have hS : va_S A s.heap H locs := by rw [hH, hlo]; exact hS
  have hP : va_P D vwCl (tpW ad cd T) H := by rw [hH]; exact hP
  have hl : lv_has ls 1 [(0, .ref (ad 1))] := hl
  have goal : W p l e (rmD 1) s m ([.ref (ad 1)] : List Value).toArray below meth c H locs 0 0 Q (F0 m 0 ls []) := by
    refine lv_aload_n hx hb d_Tape_empty_0 rfl (lv_at hl 0 rfl) ?_
    refine lv_iconst (v := 0) hx hb d_Tape_empty_1 (by decide) ?_
    refine va_put (D := D) (ci := 2) (v := .int 0) (ty := .int) (C := "HeadDesk$Tape") (T := F_Tape) (N := 2) hx hb hts a_Tape t_Tape k_Tape n_Tape hown hX.1 hP hD hS 0 rfl rfl 1 (by decide) (hts _ m_1_37) (fun _ h9 => h9) rfl (by decide +kernel) rfl rfl (Nat.le_of_ble_eq_true rfl) d_Tape_empty_2 (fun H locs hP hD hS => ?_)
    have hP : va_P D vwCl (tpW ad cd (T.1, 0)) H := hP
    have hD : va_D A (tpW ad cd (T.1, 0)) := hD
    exact hret H locs (T.1, 0) _ _ hP hD hS rfl d_Tape_empty_5
  rw [hH, hlo] at goal
  exact goal
