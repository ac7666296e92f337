variable {l : Launch} {D : va_G} {ad : Nat → Nat} {cd : Nat → ClassId} {adK adV : Nat → Nat} {tF : Nat} {T : TX} {tys : List (ClassId × FieldType)}
variable {ah av ar : Nat} {cv cr : ClassId} {tv tr : Nat}

set_option maxHeartbeats 4000000 in
set_option maxRecDepth 100000 in
theorem c_Head_set (htv : tys[tv]? = some (cv, FieldType.int)) (htr : tys[tr]? = some (cr, FieldType.int)) (q : (Nat → Int32) × (Nat → Int32)) (x : Int32) (z : Int32) : hx_Mv l D tys adK adV tF (hdW ah av ar cv cr) y_Head_set w_Head_set (rmD 1) [.ref ah, .int x, .int z] q (hSet q.1 x z, q.2) := by
  refine hx_Mv.of (cc := b_Head_set) (maxL := 3) (by decide) rfl (Nat.le_of_ble_eq_true rfl) ?_
  intro p e s m below meth c A Q ls hI hX hA hP hD hS hl hret
  obtain ⟨hx, hb, hml, hown, hts⟩ := id hI
  have hts : ∀ w ∈ aw, w.before ([.ref ah, .int x, .int z] : List Value).toArray s = true := fun w h => hts w (List.mem_cons_of_mem _ h)
  have hown : s.vm.findClass "HeadDesk$Head" = some m.cls := hown
  have hI : hx_In p s m ([.ref ah, .int x, .int z] : List Value).toArray c b_Head_set 3 "HeadDesk$Head" aw := ⟨hx, hb, hml, hown, hts⟩
  have hP : va_P D vwCl (hdW ah av ar cv cr q) s.heap := hP
  obtain ⟨H, hH⟩ : ∃ H, H = s.heap := ⟨_, rfl⟩
  obtain ⟨locs, hlo⟩ : ∃ locs : List Loc, locs = [] := ⟨_, rfl⟩
  have hS : va_S A s.heap H locs := by rw [hH, hlo]; exact hS
  have hP : va_P D vwCl (hdW ah av ar cv cr q) H := by rw [hH]; exact hP
  have hl : lv_has ls 3 [(0, .ref ah), (1, .int x), (2, .int z)] := hl
  have goal : W p l e (rmD 1) s m ([.ref ah, .int x, .int z] : List Value).toArray below meth c H locs 0 0 Q (F0 m 0 ls []) := by
    refine lv_iload_n hx hb d_Head_set_0 rfl (lv_at hl 1 rfl) ?_
    refine lv_if_lt (tgt := 20) hx hb d_Head_set_1 (by decide) (fun c_1 => ?_) (fun c_1 => ?_)
    · skip
      have c_1 : (x < 0) := c_1
      exact hret H locs q _ _ hP hD hS (by first | (simp only [hSet, if_pos c_1, fStop, if_true, if_false, Bool.false_eq_true, ↓reduceIte]; done) | (simp only [hSet, if_pos c_1, fStop, if_true, if_false, Bool.false_eq_true, ↓reduceIte]; with_reducible rfl)) d_Head_set_20
    · skip
      have c_1 : ¬ (x < 0) := c_1
      refine lv_iload_n hx hb d_Head_set_4 rfl (lv_at hl 1 rfl) ?_
      refine lv_aload_n hx hb d_Head_set_5 rfl (lv_at hl 0 rfl) ?_
      refine va_get (D := D) (ci := 0) (v := .ref av) (C := "HeadDesk$Head") (T := F_Head) (N := 2) hx hb hts a_Head hown hX.1 hP 0 rfl rfl 0 (by decide) (hts _ m_1_52) (fun _ h9 => h9) rfl d_Head_set_6 ?_
      refine va_alen (v := 18) hx hb hX.1 hP 1 tv rfl htv rfl d_Head_set_9 ?_
      refine lv_icmp_ge (tgt := 20) hx hb d_Head_set_10 (by decide) (fun c_10 => ?_) (fun c_10 => ?_)
      · skip
        have c_10 : (18 ≤ x) := c_10
        exact hret H locs q _ _ hP hD hS (by first | (simp only [hSet, if_neg c_1, if_pos c_10, fStop, if_true, if_false, Bool.false_eq_true, ↓reduceIte]; done) | (simp only [hSet, if_neg c_1, if_pos c_10, fStop, if_true, if_false, Bool.false_eq_true, ↓reduceIte]; with_reducible rfl)) d_Head_set_20
      · skip
        have c_10 : ¬ (18 ≤ x) := c_10
        refine lv_aload_n hx hb d_Head_set_13 rfl (lv_at hl 0 rfl) ?_
        refine va_get (D := D) (ci := 0) (v := .ref av) (C := "HeadDesk$Head") (T := F_Head) (N := 2) hx hb hts a_Head hown hX.1 hP 0 rfl rfl 0 (by decide) (hts _ m_1_52) (fun _ h9 => h9) rfl d_Head_set_14 ?_
        refine lv_iload_n hx hb d_Head_set_17 rfl (lv_at hl 1 rfl) ?_
        refine lv_iload_n hx hb d_Head_set_18 rfl (lv_at hl 2 rfl) ?_
        refine va_iast hx hb hX.1 hP hD hS 1 tv rfl htv (hix18 c_1 c_10) d_Head_set_19 (fun H locs hP hD hS => ?_)
        have hP : va_P D vwCl (hdW ah av ar cv cr (upd q.1 x.toNatClampNeg z, q.2)) H := hP
        have hD : va_D A (hdW ah av ar cv cr (upd q.1 x.toNatClampNeg z, q.2)) := hD
        exact hret H locs (upd q.1 x.toNatClampNeg z, q.2) _ _ hP hD hS (by first | (simp only [hSet, if_neg c_1, if_neg c_10, fStop, if_true, if_false, Bool.false_eq_true, ↓reduceIte]; done) | (simp only [hSet, if_neg c_1, if_neg c_10, fStop, if_true, if_false, Bool.false_eq_true, ↓reduceIte]; with_reducible rfl)) d_Head_set_20
  rw [hH, hlo] at goal
  exact goal
set_option maxHeartbeats 4000000 in
set_option maxRecDepth 100000 in
theorem c_Head_get (htv : tys[tv]? = some (cv, FieldType.int)) (htr : tys[tr]? = some (cr, FieldType.int)) (q : (Nat → Int32) × (Nat → Int32)) (x : Int32) : hx_Mi l D tys adK adV tF (hdW ah av ar cv cr) y_Head_get w_Head_get (rmD 1) [.ref ah, .int x] q (hGet q.1 x) q := by
  refine hx_Mi.of (cc := b_Head_get) (maxL := 2) rfl (by decide) rfl (Nat.le_of_ble_eq_true rfl) ?_
  intro p e s m below meth c A Q ls hI hX hA hP hD hS hl hret
  obtain ⟨hx, hb, hml, hown, hts⟩ := id hI
  have hts : ∀ w ∈ aw, w.before ([.ref ah, .int x] : List Value).toArray s = true := fun w h => hts w (List.mem_cons_of_mem _ h)
  have hown : s.vm.findClass "HeadDesk$Head" = some m.cls := hown
  have hI : hx_In p s m ([.ref ah, .int x] : List Value).toArray c b_Head_get 2 "HeadDesk$Head" aw := ⟨hx, hb, hml, hown, hts⟩
  have hP : va_P D vwCl (hdW ah av ar cv cr q) s.heap := hP
  obtain ⟨H, hH⟩ : ∃ H, H = s.heap := ⟨_, rfl⟩
  obtain ⟨locs, hlo⟩ : ∃ locs : List Loc, locs = [] := ⟨_, rfl⟩
  have hS : va_S A s.heap H locs := by rw [hH, hlo]; exact hS
  have hP : va_P D vwCl (hdW ah av ar cv cr q) H := by rw [hH]; exact hP
  have hl : lv_has ls 2 [(0, .ref ah), (1, .int x)] := hl
  have goal : W p l e (rmD 1) s m ([.ref ah, .int x] : List Value).toArray below meth c H locs 0 0 Q (F0 m 0 ls []) := by
    refine lv_iload_n hx hb d_Head_get_0 rfl (lv_at hl 1 rfl) ?_
    refine lv_if_lt (tgt := 22) hx hb d_Head_get_1 (by decide) (fun c_1 => ?_) (fun c_1 => ?_)
    · skip
      have c_1 : (x < 0) := c_1
      refine lv_iconst (v := (-1)) hx hb d_Head_get_22 (by decide) ?_
      exact hret H locs q (-1) _ _ hP hD hS ⟨(by first | (simp only [hGet, if_pos c_1, fStop, if_true, if_false, Bool.false_eq_true, ↓reduceIte]; done) | (simp only [hGet, if_pos c_1, fStop, if_true, if_false, Bool.false_eq_true, ↓reduceIte]; with_reducible rfl)), rfl⟩ d_Head_get_23
    · skip
      have c_1 : ¬ (x < 0) := c_1
      refine lv_iload_n hx hb d_Head_get_4 rfl (lv_at hl 1 rfl) ?_
      refine lv_aload_n hx hb d_Head_get_5 rfl (lv_at hl 0 rfl) ?_
      refine va_get (D := D) (ci := 0) (v := .ref av) (C := "HeadDesk$Head") (T := F_Head) (N := 2) hx hb hts a_Head hown hX.1 hP 0 rfl rfl 0 (by decide) (hts _ m_1_52) (fun _ h9 => h9) rfl d_Head_get_6 ?_
      refine va_alen (v := 18) hx hb hX.1 hP 1 tv rfl htv rfl d_Head_get_9 ?_
      refine lv_icmp_ge (tgt := 22) hx hb d_Head_get_10 (by decide) (fun c_10 => ?_) (fun c_10 => ?_)
      · skip
        have c_10 : (18 ≤ x) := c_10
        refine lv_iconst (v := (-1)) hx hb d_Head_get_22 (by decide) ?_
        exact hret H locs q (-1) _ _ hP hD hS ⟨(by first | (simp only [hGet, if_neg c_1, if_pos c_10, fStop, if_true, if_false, Bool.false_eq_true, ↓reduceIte]; done) | (simp only [hGet, if_neg c_1, if_pos c_10, fStop, if_true, if_false, Bool.false_eq_true, ↓reduceIte]; with_reducible rfl)), rfl⟩ d_Head_get_23
      · skip
        have c_10 : ¬ (18 ≤ x) := c_10
        refine lv_aload_n hx hb d_Head_get_13 rfl (lv_at hl 0 rfl) ?_
        refine va_get (D := D) (ci := 0) (v := .ref av) (C := "HeadDesk$Head") (T := F_Head) (N := 2) hx hb hts a_Head hown hX.1 hP 0 rfl rfl 0 (by decide) (hts _ m_1_52) (fun _ h9 => h9) rfl d_Head_get_14 ?_
        refine lv_iload_n hx hb d_Head_get_17 rfl (lv_at hl 1 rfl) ?_
        refine va_iald hx hb hX.1 hP 1 tv rfl htv (hix18 c_1 c_10) d_Head_get_18 ?_
        refine lv_goto (tgt := 23) hx hb d_Head_get_19 (by decide) ?_
        exact hret H locs q (q.1 x.toNatClampNeg) _ _ hP hD hS ⟨(by first | (simp only [hGet, if_neg c_1, if_neg c_10, fStop, if_true, if_false, Bool.false_eq_true, ↓reduceIte]; done) | (simp only [hGet, if_neg c_1, if_neg c_10, fStop, if_true, if_false, Bool.false_eq_true, ↓reduceIte]; with_reducible rfl)), rfl⟩ d_Head_get_23
  rw [hH, hlo] at goal
  exact goal
set_option maxHeartbeats 4000000 in
set_option maxRecDepth 100000 in
theorem c_Head_setRange (htv : tys[tv]? = some (cv, FieldType.int)) (htr : tys[tr]? = some (cr, FieldType.int)) (q : (Nat → Int32) × (Nat → Int32)) (x : Int32) (z : Int32) (z2 : Int32) : hx_Mv l D tys adK adV tF (hdW ah av ar cv cr) y_Head_setRange w_Head_setRange (rmD 1) [.ref ah, .int x, .int z, .int z2] q (hRng q.1 x z z2, q.2) := by
  refine hx_Mv.of (cc := b_Head_setRange) (maxL := 4) (by decide) rfl (Nat.le_of_ble_eq_true rfl) ?_
  intro p e s m below meth c A Q ls hI hX hA hP hD hS hl hret
  obtain ⟨hx, hb, hml, hown, hts⟩ := id hI
  have hts : ∀ w ∈ aw, w.before ([.ref ah, .int x, .int z, .int z2] : List Value).toArray s = true := fun w h => hts w (List.mem_cons_of_mem _ h)
  have hown : s.vm.findClass "HeadDesk$Head" = some m.cls := hown
  have hI : hx_In p s m ([.ref ah, .int x, .int z, .int z2] : List Value).toArray c b_Head_setRange 4 "HeadDesk$Head" aw := ⟨hx, hb, hml, hown, hts⟩
  have hP : va_P D vwCl (hdW ah av ar cv cr q) s.heap := hP
  obtain ⟨H, hH⟩ : ∃ H, H = s.heap := ⟨_, rfl⟩
  obtain ⟨locs, hlo⟩ : ∃ locs : List Loc, locs = [] := ⟨_, rfl⟩
  have hS : va_S A s.heap H locs := by rw [hH, hlo]; exact hS
  have hP : va_P D vwCl (hdW ah av ar cv cr q) H := by rw [hH]; exact hP
  have hl : lv_has ls 4 [(0, .ref ah), (1, .int x), (2, .int z), (3, .int z2)] := hl
  have goal : W p l e (rmD 1) s m ([.ref ah, .int x, .int z, .int z2] : List Value).toArray below meth c H locs 0 0 Q (F0 m 0 ls []) := by
    refine lv_aload_n hx hb d_Head_setRange_0 rfl (lv_at hl 0 rfl) ?_
    refine va_get (D := D) (ci := 0) (v := .ref av) (C := "HeadDesk$Head") (T := F_Head) (N := 2) hx hb hts a_Head hown hX.1 hP 0 rfl rfl 0 (by decide) (hts _ m_1_52) (fun _ h9 => h9) rfl d_Head_setRange_1 ?_
    refine lv_iconst (v := 3) hx hb d_Head_setRange_4 (by decide) ?_
    refine lv_iload_n hx hb d_Head_setRange_5 rfl (lv_at hl 1 rfl) ?_
    refine va_iast hx hb hX.1 hP hD hS 1 tv rfl htv (vp_in_iff.mpr (by decide)) d_Head_setRange_6 (fun H locs hP hD hS => ?_)
    have hP : va_P D vwCl (hdW ah av ar cv cr (upd q.1 3 x, q.2)) H := hP
    have hD : va_D A (hdW ah av ar cv cr (upd q.1 3 x, q.2)) := hD
    refine lv_aload_n hx hb d_Head_setRange_7 rfl (lv_at hl 0 rfl) ?_
    refine va_get (D := D) (ci := 0) (v := .ref av) (C := "HeadDesk$Head") (T := F_Head) (N := 2) hx hb hts a_Head hown hX.1 hP 0 rfl rfl 0 (by decide) (hts _ m_1_52) (fun _ h9 => h9) rfl d_Head_setRange_8 ?_
    refine lv_iconst (v := 4) hx hb d_Head_setRange_11 (by decide) ?_
    refine lv_iload_n hx hb d_Head_setRange_12 rfl (lv_at hl 2 rfl) ?_
    refine va_iast hx hb hX.1 hP hD hS 1 tv rfl htv (vp_in_iff.mpr (by decide)) d_Head_setRange_13 (fun H locs hP hD hS => ?_)
    have hP : va_P D vwCl (hdW ah av ar cv cr (upd (upd q.1 3 x) 4 z, (upd q.1 3 x, q.2).2)) H := hP
    have hD : va_D A (hdW ah av ar cv cr (upd (upd q.1 3 x) 4 z, (upd q.1 3 x, q.2).2)) := hD
    refine lv_aload_n hx hb d_Head_setRange_14 rfl (lv_at hl 0 rfl) ?_
    refine va_get (D := D) (ci := 0) (v := .ref av) (C := "HeadDesk$Head") (T := F_Head) (N := 2) hx hb hts a_Head hown hX.1 hP 0 rfl rfl 0 (by decide) (hts _ m_1_52) (fun _ h9 => h9) rfl d_Head_setRange_15 ?_
    refine lv_iconst (v := 5) hx hb d_Head_setRange_18 (by decide) ?_
    refine lv_iload_n hx hb d_Head_setRange_19 rfl (lv_at hl 3 rfl) ?_
    refine va_iast hx hb hX.1 hP hD hS 1 tv rfl htv (vp_in_iff.mpr (by decide)) d_Head_setRange_20 (fun H locs hP hD hS => ?_)
    have hP : va_P D vwCl (hdW ah av ar cv cr (upd (upd (upd q.1 3 x) 4 z) 5 z2, (upd (upd q.1 3 x) 4 z, (upd q.1 3 x, q.2).2).2)) H := hP
    have hD : va_D A (hdW ah av ar cv cr (upd (upd (upd q.1 3 x) 4 z) 5 z2, (upd (upd q.1 3 x) 4 z, (upd q.1 3 x, q.2).2).2)) := hD
    exact hret H locs (upd (upd (upd q.1 3 x) 4 z) 5 z2, (upd (upd q.1 3 x) 4 z, (upd q.1 3 x, q.2).2).2) _ _ hP hD hS (by first | (simp only [hRng, fStop, if_true, if_false, Bool.false_eq_true, ↓reduceIte]; done) | (simp only [hRng, fStop, if_true, if_false, Bool.false_eq_true, ↓reduceIte]; with_reducible rfl)) d_Head_setRange_21
  rw [hH, hlo] at goal
  exact goal
set_option maxHeartbeats 4000000 in
set_option maxRecDepth 100000 in
theorem c_Head_addKey (htv : tys[tv]? = some (cv, FieldType.int)) (htr : tys[tr]? = some (cr, FieldType.int)) (q : (Nat → Int32) × (Nat → Int32)) (x : Int32) : hx_Mv l D tys adK adV tF (hdW ah av ar cv cr) y_Head_addKey w_Head_addKey (rmD 1) [.ref ah, .int x] q (hKey q.1 x, q.2) := by
  refine hx_Mv.of (cc := b_Head_addKey) (maxL := 2) (by decide) rfl (Nat.le_of_ble_eq_true rfl) ?_
  intro p e s m below meth c A Q ls hI hX hA hP hD hS hl hret
  obtain ⟨hx, hb, hml, hown, hts⟩ := id hI
  have hts : ∀ w ∈ aw, w.before ([.ref ah, .int x] : List Value).toArray s = true := fun w h => hts w (List.mem_cons_of_mem _ h)
  have hown : s.vm.findClass "HeadDesk$Head" = some m.cls := hown
  have hI : hx_In p s m ([.ref ah, .int x] : List Value).toArray c b_Head_addKey 2 "HeadDesk$Head" aw := ⟨hx, hb, hml, hown, hts⟩
  have hP : va_P D vwCl (hdW ah av ar cv cr q) s.heap := hP
  obtain ⟨H, hH⟩ : ∃ H, H = s.heap := ⟨_, rfl⟩
  obtain ⟨locs, hlo⟩ : ∃ locs : List Loc, locs = [] := ⟨_, rfl⟩
  have hS : va_S A s.heap H locs := by rw [hH, hlo]; exact hS
  have hP : va_P D vwCl (hdW ah av ar cv cr q) H := by rw [hH]; exact hP
  have hl : lv_has ls 2 [(0, .ref ah), (1, .int x)] := hl
  have goal : W p l e (rmD 1) s m ([.ref ah, .int x] : List Value).toArray below meth c H locs 0 0 Q (F0 m 0 ls []) := by
    refine lv_aload_n hx hb d_Head_addKey_0 rfl (lv_at hl 0 rfl) ?_
    refine va_get (D := D) (ci := 0) (v := .ref av) (C := "HeadDesk$Head") (T := F_Head) (N := 2) hx hb hts a_Head hown hX.1 hP 0 rfl rfl 0 (by decide) (hts _ m_1_52) (fun _ h9 => h9) rfl d_Head_addKey_1 ?_
    refine lv_bipush (v := 9) hx hb d_Head_addKey_4 (by decide) ?_
    refine lv_dup2_11 hx hb d_Head_addKey_6 rfl rfl ?_
    refine va_iald hx hb hX.1 hP 1 tv rfl htv (vp_in_iff.mpr (by decide)) d_Head_addKey_7 ?_
    refine hx_top (v := q.1 9) (by first | rfl | (rw [nI_clamp (by omega)])) ?_
    refine lv_iconst (v := 1) hx hb d_Head_addKey_8 (by decide) ?_
    refine lv_iload_n hx hb d_Head_addKey_9 rfl (lv_at hl 1 rfl) ?_
    refine lv_bipush (v := 97) hx hb d_Head_addKey_10 (by decide) ?_
    refine lv_isub hx hb d_Head_addKey_12 ?_
    refine lv_ishl hx hb d_Head_addKey_13 ?_
    refine lv_ior hx hb d_Head_addKey_14 ?_
    refine va_iast hx hb hX.1 hP hD hS 1 tv rfl htv (vp_in_iff.mpr (by decide)) d_Head_addKey_15 (fun H locs hP hD hS => ?_)
    have hP : va_P D vwCl (hdW ah av ar cv cr (upd q.1 9 ((q.1 9) ||| (1 <<< ((x - 97) &&& 31))), q.2)) H := hP
    have hD : va_D A (hdW ah av ar cv cr (upd q.1 9 ((q.1 9) ||| (1 <<< ((x - 97) &&& 31))), q.2)) := hD
    exact hret H locs (upd q.1 9 ((q.1 9) ||| (1 <<< ((x - 97) &&& 31))), q.2) _ _ hP hD hS (by first | (simp only [hKey, fStop, if_true, if_false, Bool.false_eq_true, ↓reduceIte]; done) | (simp only [hKey, fStop, if_true, if_false, Bool.false_eq_true, ↓reduceIte]; with_reducible rfl)) d_Head_addKey_16
  rw [hH, hlo] at goal
  exact goal
set_option maxHeartbeats 4000000 in
set_option maxRecDepth 100000 in
theorem c_Head_hasVersion (htv : tys[tv]? = some (cv, FieldType.int)) (htr : tys[tr]? = some (cr, FieldType.int)) (q : (Nat → Int32) × (Nat → Int32)) (x : Int32) : hx_Mz l D tys adK adV tF (hdW ah av ar cv cr) y_Head_hasVersion w_Head_hasVersion (rmD 1) [.ref ah, .int x] q (hHas q.1 q.2 x) q := by
  refine hx_Mz.of (cc := b_Head_hasVersion) (maxL := 3) (by decide) rfl (Nat.le_of_ble_eq_true rfl) ?_
  intro p e s m below meth c A Q ls hI hX hA hP hD hS hl hret
  obtain ⟨hx, hb, hml, hown, hts⟩ := id hI
  have hts : ∀ w ∈ aw, w.before ([.ref ah, .int x] : List Value).toArray s = true := fun w h => hts w (List.mem_cons_of_mem _ h)
  have hown : s.vm.findClass "HeadDesk$Head" = some m.cls := hown
  have hI : hx_In p s m ([.ref ah, .int x] : List Value).toArray c b_Head_hasVersion 3 "HeadDesk$Head" aw := ⟨hx, hb, hml, hown, hts⟩
  have hP : va_P D vwCl (hdW ah av ar cv cr q) s.heap := hP
  obtain ⟨H, hH⟩ : ∃ H, H = s.heap := ⟨_, rfl⟩
  obtain ⟨locs, hlo⟩ : ∃ locs : List Loc, locs = [] := ⟨_, rfl⟩
  have hS : va_S A s.heap H locs := by rw [hH, hlo]; exact hS
  have hP : va_P D vwCl (hdW ah av ar cv cr q) H := by rw [hH]; exact hP
  have hl : lv_has ls 3 [(0, .ref ah), (1, .int x)] := hl
  have goal : W p l e (rmD 1) s m ([.ref ah, .int x] : List Value).toArray below meth c H locs 0 0 Q (F0 m 0 ls []) := by
    refine lv_iconst (v := 0) hx hb d_Head_hasVersion_0 (by decide) ?_
    refine lv_istore_n (lv' := [(2, .int 0), (0, .ref ah), (1, .int x)]) hx hb d_Head_hasVersion_1 rfl hl (by decide) rfl (fun ls hl => ?_)
    have loop2 : ∀ (k : Nat) (j : Nat) (H : Heap) (locs : List Loc) (ls : Array Slot), j + k = 8 → hHas q.1 q.2 x = hasL q.1 q.2 x k j → va_P D vwCl (hdW ah av ar cv cr q) H → va_D A (hdW ah av ar cv cr q) → va_S A s.heap H locs → lv_has ls 3 [(2, .int (nI j)), (0, .ref ah), (1, .int x)] → W p l e (rmD 1) s m ([.ref ah, .int x] : List Value).toArray below meth c H locs 0 0 Q (F0 m 2 ls []) := by
      intro k
      induction k with
      | zero =>
        intro j H locs ls hj hF hP hD hS hl
        refine lv_iload_n hx hb d_Head_hasVersion_2 rfl (lv_at hl 0 rfl) ?_
        refine lv_aload_n hx hb d_Head_hasVersion_3 rfl (lv_at hl 1 rfl) ?_
        refine va_get (D := D) (ci := 0) (v := .ref ar) (C := "HeadDesk$Head") (T := F_Head) (N := 2) hx hb hts a_Head hown hX.1 hP 0 rfl rfl 1 (by decide) (hts _ m_1_53) (fun _ h9 => h9) rfl d_Head_hasVersion_4 ?_
        refine va_alen (v := 8) hx hb hX.1 hP 2 tr rfl htr rfl d_Head_hasVersion_7 ?_
        refine lv_icmp_ge (tgt := 40) hx hb d_Head_hasVersion_8 (by decide) (fun c_8 => ?_) (fun c_8 => ?_)
        · skip
          have c_8 : (8 ≤ nI j) := c_8
          refine lv_iconst (v := 0) hx hb d_Head_hasVersion_40 (by decide) ?_
          exact hret H locs q false _ _ hP hD hS ⟨(by first | (rw [hF]; ((try simp only [hasL]) <;> simp only [hasL, if_pos c_8, fStop, if_true, if_false, Bool.false_eq_true, ↓reduceIte]); done) | (rw [hF]; ((try simp only [hasL]) <;> simp only [hasL, if_pos c_8, fStop, if_true, if_false, Bool.false_eq_true, ↓reduceIte]); with_reducible rfl)), rfl⟩ d_Head_hasVersion_41
        · skip
          exact absurd (nI_gyes (N := 8) rfl (by omega) (by omega)) c_8
      | succ k ih =>
        intro j H locs ls hj hF hP hD hS hl
        refine lv_iload_n hx hb d_Head_hasVersion_2 rfl (lv_at hl 0 rfl) ?_
        refine lv_aload_n hx hb d_Head_hasVersion_3 rfl (lv_at hl 1 rfl) ?_
        refine va_get (D := D) (ci := 0) (v := .ref ar) (C := "HeadDesk$Head") (T := F_Head) (N := 2) hx hb hts a_Head hown hX.1 hP 0 rfl rfl 1 (by decide) (hts _ m_1_53) (fun _ h9 => h9) rfl d_Head_hasVersion_4 ?_
        refine va_alen (v := 8) hx hb hX.1 hP 2 tr rfl htr rfl d_Head_hasVersion_7 ?_
        refine lv_icmp_ge (tgt := 40) hx hb d_Head_hasVersion_8 (by decide) (fun c_8 => ?_) (fun c_8 => ?_)
        · skip
          exact absurd c_8 (nI_gno (N := 8) rfl (by omega) (by omega))
        · skip
          have c_8 : ¬ (8 ≤ nI j) := c_8
          refine lv_iload_n hx hb d_Head_hasVersion_11 rfl (lv_at hl 0 rfl) ?_
          refine lv_aload_n hx hb d_Head_hasVersion_12 rfl (lv_at hl 1 rfl) ?_
          refine va_get (D := D) (ci := 0) (v := .ref av) (C := "HeadDesk$Head") (T := F_Head) (N := 2) hx hb hts a_Head hown hX.1 hP 0 rfl rfl 0 (by decide) (hts _ m_1_52) (fun _ h9 => h9) rfl d_Head_hasVersion_13 ?_
          refine lv_bipush (v := 7) hx hb d_Head_hasVersion_16 (by decide) ?_
          refine va_iald hx hb hX.1 hP 1 tv rfl htv (vp_in_iff.mpr (by decide)) d_Head_hasVersion_18 ?_
          refine hx_top (v := q.1 7) (by first | rfl | (rw [nI_clamp (by omega)])) ?_
          refine lv_icmp_ge (tgt := 40) hx hb d_Head_hasVersion_19 (by decide) (fun c_19 => ?_) (fun c_19 => ?_)
          · skip
            have c_19 : (q.1 7 ≤ nI j) := c_19
            refine lv_iconst (v := 0) hx hb d_Head_hasVersion_40 (by decide) ?_
            exact hret H locs q false _ _ hP hD hS ⟨(by first | (rw [hF]; ((try simp only [hasL]) <;> simp only [hasL, if_neg c_8, if_pos c_19, fStop, if_true, if_false, Bool.false_eq_true, ↓reduceIte]); done) | (rw [hF]; ((try simp only [hasL]) <;> simp only [hasL, if_neg c_8, if_pos c_19, fStop, if_true, if_false, Bool.false_eq_true, ↓reduceIte]); with_reducible rfl)), rfl⟩ d_Head_hasVersion_41
          · skip
            have c_19 : ¬ (q.1 7 ≤ nI j) := c_19
            refine lv_aload_n hx hb d_Head_hasVersion_22 rfl (lv_at hl 1 rfl) ?_
            refine va_get (D := D) (ci := 0) (v := .ref ar) (C := "HeadDesk$Head") (T := F_Head) (N := 2) hx hb hts a_Head hown hX.1 hP 0 rfl rfl 1 (by decide) (hts _ m_1_53) (fun _ h9 => h9) rfl d_Head_hasVersion_23 ?_
            refine lv_iload_n hx hb d_Head_hasVersion_26 rfl (lv_at hl 0 rfl) ?_
            refine va_iald hx hb hX.1 hP 2 tr rfl htr (vp_in_nI (by omega) (by decide)) d_Head_hasVersion_27 ?_
            refine hx_top (v := q.2 j) (by first | rfl | (rw [nI_clamp (by omega)])) ?_
            refine lv_iload_n hx hb d_Head_hasVersion_28 rfl (lv_at hl 2 rfl) ?_
            refine lv_icmp_ne (tgt := 34) hx hb d_Head_hasVersion_29 (by decide) (fun c_29 => ?_) (fun c_29 => ?_)
            · skip
              have c_29 : ¬ (q.2 j = x) := c_29
              refine lv_iinc (v := nI (j + 1)) (lv' := [(2, .int (nI (j + 1))), (0, .ref ah), (1, .int x)]) hx hb d_Head_hasVersion_34 hl (k := 0) rfl (by rw [nI_succ]; rfl) (by decide) rfl (fun ls hl => ?_)
              refine lv_goto (tgt := 2) hx hb d_Head_hasVersion_37 (by decide) ?_
              exact ih (j + 1)  H locs ls (by omega)  (by first | (rw [hF]; ((try simp only [hasL]) <;> simp only [hasL, if_neg c_8, if_neg c_19, if_neg c_29, fStop, if_true, if_false, Bool.false_eq_true, ↓reduceIte]); done) | (rw [hF]; ((try simp only [hasL]) <;> simp only [hasL, if_neg c_8, if_neg c_19, if_neg c_29, fStop, if_true, if_false, Bool.false_eq_true, ↓reduceIte]); with_reducible rfl)) hP hD hS (lv_sub hl [0, 1, 2] rfl)
            · skip
              have c_29 : (q.2 j = x) := c_29
              refine lv_iconst (v := 1) hx hb d_Head_hasVersion_32 (by decide) ?_
              exact hret H locs q true _ _ hP hD hS ⟨(by first | (rw [hF]; ((try simp only [hasL]) <;> simp only [hasL, if_neg c_8, if_neg c_19, if_pos c_29, fStop, if_true, if_false, Bool.false_eq_true, ↓reduceIte]); done) | (rw [hF]; ((try simp only [hasL]) <;> simp only [hasL, if_neg c_8, if_neg c_19, if_pos c_29, fStop, if_true, if_false, Bool.false_eq_true, ↓reduceIte]); with_reducible rfl)), rfl⟩ d_Head_hasVersion_33
    exact loop2 8 0  H locs ls (by rfl) rfl hP hD hS (lv_sub hl [0, 1, 2] rfl)
  rw [hH, hlo] at goal
  exact goal
set_option maxHeartbeats 4000000 in
set_option maxRecDepth 100000 in
theorem c_Head_coversVersion (htv : tys[tv]? = some (cv, FieldType.int)) (htr : tys[tr]? = some (cr, FieldType.int)) (q : (Nat → Int32) × (Nat → Int32)) (x : Int32) : hx_Mz l D tys adK adV tF (hdW ah av ar cv cr) y_Head_coversVersion w_Head_coversVersion (rmD 2) [.ref ah, .int x] q (hCov q.1 q.2 x) q := by
  refine hx_Mz.of (cc := b_Head_coversVersion) (maxL := 2) (by decide) rfl (Nat.le_of_ble_eq_true rfl) ?_
  intro p e s m below meth c A Q ls hI hX hA hP hD hS hl hret
  obtain ⟨hx, hb, hml, hown, hts⟩ := id hI
  have hts : ∀ w ∈ aw, w.before ([.ref ah, .int x] : List Value).toArray s = true := fun w h => hts w (List.mem_cons_of_mem _ h)
  have hown : s.vm.findClass "HeadDesk$Head" = some m.cls := hown
  have hI : hx_In p s m ([.ref ah, .int x] : List Value).toArray c b_Head_coversVersion 2 "HeadDesk$Head" aw := ⟨hx, hb, hml, hown, hts⟩
  have hP : va_P D vwCl (hdW ah av ar cv cr q) s.heap := hP
  obtain ⟨H, hH⟩ : ∃ H, H = s.heap := ⟨_, rfl⟩
  obtain ⟨locs, hlo⟩ : ∃ locs : List Loc, locs = [] := ⟨_, rfl⟩
  have hS : va_S A s.heap H locs := by rw [hH, hlo]; exact hS
  have hP : va_P D vwCl (hdW ah av ar cv cr q) H := by rw [hH]; exact hP
  have hl : lv_has ls 2 [(0, .ref ah), (1, .int x)] := hl
  have goal : W p l e (rmD 2) s m ([.ref ah, .int x] : List Value).toArray below meth c H locs 0 0 Q (F0 m 0 ls []) := by
    refine lv_aload_n hx hb d_Head_coversVersion_0 rfl (lv_at hl 0 rfl) ?_
    refine va_get (D := D) (ci := 0) (v := .ref av) (C := "HeadDesk$Head") (T := F_Head) (N := 2) hx hb hts a_Head hown hX.1 hP 0 rfl rfl 0 (by decide) (hts _ m_1_52) (fun _ h9 => h9) rfl d_Head_coversVersion_1 ?_
    refine lv_bipush (v := 6) hx hb d_Head_coversVersion_4 (by decide) ?_
    refine va_iald hx hb hX.1 hP 1 tv rfl htv (vp_in_iff.mpr (by decide)) d_Head_coversVersion_6 ?_
    refine hx_top (v := q.1 6) (by first | rfl | (rw [nI_clamp (by omega)])) ?_
    refine lv_iconst (v := 1) hx hb d_Head_coversVersion_7 (by decide) ?_
    refine lv_icmp_eq (tgt := 19) hx hb d_Head_coversVersion_8 (by decide) (fun c_8 => ?_) (fun c_8 => ?_)
    · skip
      have c_8 : (q.1 6 = 1) := c_8
      refine lv_iconst (v := 1) hx hb d_Head_coversVersion_19 (by decide) ?_
      refine lv_goto (tgt := 24) hx hb d_Head_coversVersion_20 (by decide) ?_
      exact hret H locs q true _ _ hP hD hS ⟨(by first | (simp only [hCov, if_pos c_8, fStop, if_true, if_false, Bool.false_eq_true, ↓reduceIte]; done) | (simp only [hCov, if_pos c_8, fStop, if_true, if_false, Bool.false_eq_true, ↓reduceIte]; with_reducible rfl)), rfl⟩ d_Head_coversVersion_24
    · skip
      have c_8 : ¬ (q.1 6 = 1) := c_8
      refine lv_aload_n hx hb d_Head_coversVersion_11 rfl (lv_at hl 0 rfl) ?_
      refine lv_iload_n hx hb d_Head_coversVersion_12 rfl (lv_at hl 1 rfl) ?_
      refine hx_Vz (wr := []) (As := [.int x]) (rest := []) hI (c_Head_hasVersion htv htr q x) (cw_V (C := "HeadDesk$Head") 1 hts m_1_147 m_1_149 ms_0 m_1_4 m_1_150 (by decide +kernel) ⟨by decide, by decide⟩) hX hA hP hD hS [0, 1, 2] [] rfl rfl (by decide) (by decide) (by decide) (va_recv hX.1 hP (ci := 0) (q0 := 0) rfl rfl) rfl hl.1 rfl (Nat.le_of_ble_eq_true rfl) d_Head_coversVersion_13 ⟨Nat.zero_le _, Nat.zero_le _⟩ (fun H locs hP hD hS => ?_)
      have hP : va_P D vwCl (hdW ah av ar cv cr q) H := hP
      have hD : va_D A (hdW ah av ar cv cr q) := hD
      refine lv_if_eq (tgt := 23) hx hb d_Head_coversVersion_16 (by decide) (fun c_16 => ?_) (fun c_16 => ?_)
      · skip
        have c_16 : (hHas q.1 q.2 x) = false := bI_0 c_16
        refine lv_iconst (v := 0) hx hb d_Head_coversVersion_23 (by decide) ?_
        exact hret H locs q false _ _ hP hD hS ⟨(by first | (simp only [hCov, if_neg c_8, c_16, fStop, if_true, if_false, Bool.false_eq_true, ↓reduceIte]; done) | (simp only [hCov, if_neg c_8, c_16, fStop, if_true, if_false, Bool.false_eq_true, ↓reduceIte]; with_reducible rfl)), rfl⟩ d_Head_coversVersion_24
      · skip
        have c_16 : (hHas q.1 q.2 x) = true := bI_1 c_16
        refine lv_iconst (v := 1) hx hb d_Head_coversVersion_19 (by decide) ?_
        refine lv_goto (tgt := 24) hx hb d_Head_coversVersion_20 (by decide) ?_
        exact hret H locs q true _ _ hP hD hS ⟨(by first | (simp only [hCov, if_neg c_8, c_16, fStop, if_true, if_false, Bool.false_eq_true, ↓reduceIte]; done) | (simp only [hCov, if_neg c_8, c_16, fStop, if_true, if_false, Bool.false_eq_true, ↓reduceIte]; with_reducible rfl)), rfl⟩ d_Head_coversVersion_24
  rw [hH, hlo] at goal
  exact goal
set_option maxHeartbeats 4000000 in
set_option maxRecDepth 100000 in
theorem c_Head_addVersion (htv : tys[tv]? = some (cv, FieldType.int)) (htr : tys[tr]? = some (cr, FieldType.int)) (q : (Nat → Int32) × (Nat → Int32)) (x : Int32) : hx_Mv l D tys adK adV tF (hdW ah av ar cv cr) y_Head_addVersion w_Head_addVersion (rmD 2) [.ref ah, .int x] q (hAdd q.1 q.2 x) := by
  refine hx_Mv.of (cc := b_Head_addVersion) (maxL := 3) (by decide) rfl (Nat.le_of_ble_eq_true rfl) ?_
  intro p e s m below meth c A Q ls hI hX hA hP hD hS hl hret
  obtain ⟨hx, hb, hml, hown, hts⟩ := id hI
  have hts : ∀ w ∈ aw, w.before ([.ref ah, .int x] : List Value).toArray s = true := fun w h => hts w (List.mem_cons_of_mem _ h)
  have hown : s.vm.findClass "HeadDesk$Head" = some m.cls := hown
  have hI : hx_In p s m ([.ref ah, .int x] : List Value).toArray c b_Head_addVersion 3 "HeadDesk$Head" aw := ⟨hx, hb, hml, hown, hts⟩
  have hP : va_P D vwCl (hdW ah av ar cv cr q) s.heap := hP
  obtain ⟨H, hH⟩ : ∃ H, H = s.heap := ⟨_, rfl⟩
  obtain ⟨locs, hlo⟩ : ∃ locs : List Loc, locs = [] := ⟨_, rfl⟩
  have hS : va_S A s.heap H locs := by rw [hH, hlo]; exact hS
  have hP : va_P D vwCl (hdW ah av ar cv cr q) H := by rw [hH]; exact hP
  have hl : lv_has ls 3 [(0, .ref ah), (1, .int x)] := hl
  have goal : W p l e (rmD 2) s m ([.ref ah, .int x] : List Value).toArray below meth c H locs 0 0 Q (F0 m 0 ls []) := by
    refine lv_aload_n hx hb d_Head_addVersion_0 rfl (lv_at hl 0 rfl) ?_
    refine va_get (D := D) (ci := 0) (v := .ref av) (C := "HeadDesk$Head") (T := F_Head) (N := 2) hx hb hts a_Head hown hX.1 hP 0 rfl rfl 0 (by decide) (hts _ m_1_52) (fun _ h9 => h9) rfl d_Head_addVersion_1 ?_
    refine lv_bipush (v := 7) hx hb d_Head_addVersion_4 (by decide) ?_
    refine va_iald hx hb hX.1 hP 1 tv rfl htv (vp_in_iff.mpr (by decide)) d_Head_addVersion_6 ?_
    refine hx_top (v := q.1 7) (by first | rfl | (rw [nI_clamp (by omega)])) ?_
    refine lv_istore_n (lv' := [(2, .int (q.1 7)), (0, .ref ah), (1, .int x)]) hx hb d_Head_addVersion_7 rfl hl (by decide) rfl (fun ls hl => ?_)
    refine lv_aload_n hx hb d_Head_addVersion_8 rfl (lv_at hl 1 rfl) ?_
    refine lv_iload_n hx hb d_Head_addVersion_9 rfl (lv_at hl 2 rfl) ?_
    refine hx_Vz (wr := []) (As := [.int x]) (rest := []) hI (c_Head_hasVersion htv htr q x) (cw_V (C := "HeadDesk$Head") 1 hts m_1_147 m_1_149 ms_0 m_1_4 m_1_150 (by decide +kernel) ⟨by decide, by decide⟩) hX hA hP hD hS [0, 1, 2] [] rfl rfl (by decide) (by decide) (by decide) (va_recv hX.1 hP (ci := 0) (q0 := 0) rfl rfl) rfl hl.1 rfl (Nat.le_of_ble_eq_true rfl) d_Head_addVersion_10 ⟨Nat.zero_le _, Nat.zero_le _⟩ (fun H locs hP hD hS => ?_)
    have hP : va_P D vwCl (hdW ah av ar cv cr q) H := hP
    have hD : va_D A (hdW ah av ar cv cr q) := hD
    refine lv_if_ne (tgt := 46) hx hb d_Head_addVersion_13 (by decide) (fun c_13 => ?_) (fun c_13 => ?_)
    · skip
      have c_13 : (hHas q.1 q.2 x) = true := bI_1 c_13
      exact hret H locs q _ _ hP hD hS (by first | (simp only [hAdd, c_13, fStop, if_true, if_false, Bool.false_eq_true, ↓reduceIte]; done) | (simp only [hAdd, c_13, fStop, if_true, if_false, Bool.false_eq_true, ↓reduceIte]; with_reducible rfl)) d_Head_addVersion_46
    · skip
      have c_13 : (hHas q.1 q.2 x) = false := bI_0 c_13
      refine lv_iload_n hx hb d_Head_addVersion_16 rfl (lv_at hl 0 rfl) ?_
      refine lv_if_lt (tgt := 46) hx hb d_Head_addVersion_17 (by decide) (fun c_17 => ?_) (fun c_17 => ?_)
      · skip
        have c_17 : (q.1 7 < 0) := c_17
        exact hret H locs q _ _ hP hD hS (by first | (simp only [hAdd, c_13, if_pos c_17, fStop, if_true, if_false, Bool.false_eq_true, ↓reduceIte]; done) | (simp only [hAdd, c_13, if_pos c_17, fStop, if_true, if_false, Bool.false_eq_true, ↓reduceIte]; with_reducible rfl)) d_Head_addVersion_46
      · skip
        have c_17 : ¬ (q.1 7 < 0) := c_17
        refine lv_iload_n hx hb d_Head_addVersion_20 rfl (lv_at hl 0 rfl) ?_
        refine lv_aload_n hx hb d_Head_addVersion_21 rfl (lv_at hl 1 rfl) ?_
        refine va_get (D := D) (ci := 0) (v := .ref ar) (C := "HeadDesk$Head") (T := F_Head) (N := 2) hx hb hts a_Head hown hX.1 hP 0 rfl rfl 1 (by decide) (hts _ m_1_53) (fun _ h9 => h9) rfl d_Head_addVersion_22 ?_
        refine va_alen (v := 8) hx hb hX.1 hP 2 tr rfl htr rfl d_Head_addVersion_25 ?_
        refine lv_icmp_ge (tgt := 46) hx hb d_Head_addVersion_26 (by decide) (fun c_26 => ?_) (fun c_26 => ?_)
        · skip
          have c_26 : (8 ≤ q.1 7) := c_26
          exact hret H locs q _ _ hP hD hS (by first | (simp only [hAdd, c_13, if_neg c_17, if_pos c_26, fStop, if_true, if_false, Bool.false_eq_true, ↓reduceIte]; done) | (simp only [hAdd, c_13, if_neg c_17, if_pos c_26, fStop, if_true, if_false, Bool.false_eq_true, ↓reduceIte]; with_reducible rfl)) d_Head_addVersion_46
        · skip
          have c_26 : ¬ (8 ≤ q.1 7) := c_26
          refine lv_aload_n hx hb d_Head_addVersion_29 rfl (lv_at hl 1 rfl) ?_
          refine va_get (D := D) (ci := 0) (v := .ref ar) (C := "HeadDesk$Head") (T := F_Head) (N := 2) hx hb hts a_Head hown hX.1 hP 0 rfl rfl 1 (by decide) (hts _ m_1_53) (fun _ h9 => h9) rfl d_Head_addVersion_30 ?_
          refine lv_iload_n hx hb d_Head_addVersion_33 rfl (lv_at hl 0 rfl) ?_
          refine lv_iload_n hx hb d_Head_addVersion_34 rfl (lv_at hl 2 rfl) ?_
          refine va_iast hx hb hX.1 hP hD hS 2 tr rfl htr (hix8 c_17 c_26) d_Head_addVersion_35 (fun H locs hP hD hS => ?_)
          have hP : va_P D vwCl (hdW ah av ar cv cr (q.1, upd q.2 (q.1 7).toNatClampNeg x)) H := hP
          have hD : va_D A (hdW ah av ar cv cr (q.1, upd q.2 (q.1 7).toNatClampNeg x)) := hD
          refine lv_aload_n hx hb d_Head_addVersion_36 rfl (lv_at hl 1 rfl) ?_
          refine va_get (D := D) (ci := 0) (v := .ref av) (C := "HeadDesk$Head") (T := F_Head) (N := 2) hx hb hts a_Head hown hX.1 hP 0 rfl rfl 0 (by decide) (hts _ m_1_52) (fun _ h9 => h9) rfl d_Head_addVersion_37 ?_
          refine lv_bipush (v := 7) hx hb d_Head_addVersion_40 (by decide) ?_
          refine lv_iload_n hx hb d_Head_addVersion_42 rfl (lv_at hl 0 rfl) ?_
          refine lv_iconst (v := 1) hx hb d_Head_addVersion_43 (by decide) ?_
          refine lv_iadd hx hb d_Head_addVersion_44 ?_
          refine va_iast hx hb hX.1 hP hD hS 1 tv rfl htv (vp_in_iff.mpr (by decide)) d_Head_addVersion_45 (fun H locs hP hD hS => ?_)
          have hP : va_P D vwCl (hdW ah av ar cv cr (upd q.1 7 ((q.1 7) + 1), (q.1, upd q.2 (q.1 7).toNatClampNeg x).2)) H := hP
          have hD : va_D A (hdW ah av ar cv cr (upd q.1 7 ((q.1 7) + 1), (q.1, upd q.2 (q.1 7).toNatClampNeg x).2)) := hD
          exact hret H locs (upd q.1 7 ((q.1 7) + 1), (q.1, upd q.2 (q.1 7).toNatClampNeg x).2) _ _ hP hD hS (by first | (simp only [hAdd, c_13, if_neg c_17, if_neg c_26, fStop, if_true, if_false, Bool.false_eq_true, ↓reduceIte]; done) | (simp only [hAdd, c_13, if_neg c_17, if_neg c_26, fStop, if_true, if_false, Bool.false_eq_true, ↓reduceIte]; with_reducible rfl)) d_Head_addVersion_46
  rw [hH, hlo] at goal
  exact goal
set_option maxHeartbeats 4000000 in
set_option maxRecDepth 100000 in
theorem c_Head_clear (htv : tys[tv]? = some (cv, FieldType.int)) (htr : tys[tr]? = some (cr, FieldType.int)) (q : (Nat → Int32) × (Nat → Int32))  : hx_Mv l D tys adK adV tF (hdW ah av ar cv cr) y_Head_clear w_Head_clear (rmD 1) [.ref ah] q (va_cpy at0 q.1 0 0 18, q.2) := by
  refine hx_Mv.of (cc := b_Head_clear) (maxL := 1) (by decide) rfl (Nat.le_of_ble_eq_true rfl) ?_
  intro p e s m below meth c A Q ls hI hX hA hP hD hS hl hret
  obtain ⟨hx, hb, hml, hown, hts⟩ := id hI
  have hts : ∀ w ∈ aw, w.before ([.ref ah] : List Value).toArray s = true := fun w h => hts w (List.mem_cons_of_mem _ h)
  have hown : s.vm.findClass "HeadDesk$Head" = some m.cls := hown
  have hI : hx_In p s m ([.ref ah] : List Value).toArray c b_Head_clear 1 "HeadDesk$Head" aw := ⟨hx, hb, hml, hown, hts⟩
  have hP : va_P D vwCl (hdW ah av ar cv cr q) s.heap := hP
  obtain ⟨H, hH⟩ : ∃ H, H = s.heap := ⟨_, rfl⟩
  obtain ⟨locs, hlo⟩ : ∃ locs : List Loc, locs = [] := ⟨_, rfl⟩
  have hS : va_S A s.heap H locs := by rw [hH, hlo]; exact hS
  have hP : va_P D vwCl (hdW ah av ar cv cr q) H := by rw [hH]; exact hP
  have hl : lv_has ls 1 [(0, .ref ah)] := hl
  have goal : W p l e (rmD 1) s m ([.ref ah] : List Value).toArray below meth c H locs 0 0 Q (F0 m 0 ls []) := by
    refine va_gets hx hb hX.2.2.1 hS hown (hts _ m_1_50) (fun _ h9 => h9) d_Head_clear_0 ?_
    refine lv_iconst (v := 0) hx hb d_Head_clear_3 (by decide) ?_
    refine lv_aload_n hx hb d_Head_clear_4 rfl (lv_at hl 0 rfl) ?_
    refine va_get (D := D) (ci := 0) (v := .ref av) (C := "HeadDesk$Head") (T := F_Head) (N := 2) hx hb hts a_Head hown hX.1 hP 0 rfl rfl 0 (by decide) (hts _ m_1_52) (fun _ h9 => h9) rfl d_Head_clear_5 ?_
    refine lv_iconst (v := 0) hx hb d_Head_clear_8 (by decide) ?_
    refine va_gets hx hb hX.2.2.1 hS hown (hts _ m_1_50) (fun _ h9 => h9) d_Head_clear_9 ?_
    refine va_tlen (v := 18) hx hb hX.2.2.2.1 hS rfl d_Head_clear_12 ?_
    refine hx_copy18 (f := at0) hx hb (hml.trans hl.1.symm) hown (hts _ m_2_11) (hts _ m_2_13) (hts _ m_2_12) (hts _ m_1_10) hX.1 hP hD hS hX.2.2.2.1 1 tv rfl htv (by decide) (Nat.le_of_ble_eq_true rfl) d_Head_clear_13 (fun H locs hP hD hS => ?_)
    have hP : va_P D vwCl (hdW ah av ar cv cr (va_cpy at0 q.1 0 0 18, q.2)) H := hP
    have hD : va_D A (hdW ah av ar cv cr (va_cpy at0 q.1 0 0 18, q.2)) := hD
    exact hret H locs (va_cpy at0 q.1 0 0 18, q.2) _ _ hP hD hS rfl d_Head_clear_16
  rw [hH, hlo] at goal
  exact goal
