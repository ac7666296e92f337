variable {l : Launch} {D : va_G} {ad : Nat → Nat} {cd : Nat → ClassId} {adK adV : Nat → Nat} {tF : Nat} {T : TX} {tys : List (ClassId × FieldType)}

set_option maxHeartbeats 4000000 in
set_option maxRecDepth 100000 in
theorem c_Prec_checkIndexN {j n : Nat} (hj : j < n) (hn : n < 2 ^ 31) : hx_Mi l D tys adK adV tF (fun _ : Unit => []) y_Prec_checkIndex w_Prec_checkIndex (rmD 1) [.int (nI j), .int (nI n), .null] () (nI j) () := by
  refine hx_Mi.of (cc := b_Prec_checkIndex) (maxL := 3) rfl (by decide) rfl (Nat.le_of_ble_eq_true rfl) ?_
  intro p e s m below meth c A Q ls hI hX hA hP hD hS hl hret
  obtain ⟨hx, hb, hml, hown, hts⟩ := id hI
  have hts : ∀ w ∈ aw, w.before ([.int (nI j), .int (nI n), .null] : List Value).toArray s = true := fun w h => hts w (List.mem_cons_of_mem _ h)
  have hown : s.vm.findClass "jdk/internal/util/Preconditions" = some m.cls := hown
  have hI : hx_In p s m ([.int (nI j), .int (nI n), .null] : List Value).toArray c b_Prec_checkIndex 3 "jdk/internal/util/Preconditions" aw := ⟨hx, hb, hml, hown, hts⟩
  have hP : va_P D vwCl ([]) s.heap := hP
  obtain ⟨H, hH⟩ : ∃ H, H = s.heap := ⟨_, rfl⟩
  obtain ⟨locs, hlo⟩ : ∃ locs : List Loc, locs = [] := ⟨_, rfl⟩
  have hS : va_S A s.heap H locs := by rw [hH, hlo]; exact hS
  have hP : va_P D vwCl ([]) H := by rw [hH]; exact hP
  have hl : lv_has ls 3 [(0, .int (nI j)), (1, .int (nI n)), (2, .null)] := hl
  have goal : W p l e (rmD 1) s m ([.int (nI j), .int (nI n), .null] : List Value).toArray below meth c H locs 0 0 Q (F0 m 0 ls []) := by
    refine lv_iload_n hx hb d_Prec_checkIndex_0 rfl (lv_at hl 0 rfl) ?_
    refine lv_if_lt (tgt := 9) hx hb d_Prec_checkIndex_1 (by decide) (fun c_1 => ?_) (fun c_1 => ?_)
    · skip
      exact absurd c_1 (nI_pos (by omega))
    · skip
      have c_1 : ¬ (nI j < 0) := c_1
      refine lv_iload_n hx hb d_Prec_checkIndex_4 rfl (lv_at hl 0 rfl) ?_
      refine lv_iload_n hx hb d_Prec_checkIndex_5 rfl (lv_at hl 1 rfl) ?_
      refine lv_icmp_lt (tgt := 16) hx hb d_Prec_checkIndex_6 (by decide) (fun c_6 => ?_) (fun c_6 => ?_)
      · skip
        have c_6 : (nI j < nI n) := c_6
        refine lv_iload_n hx hb d_Prec_checkIndex_16 rfl (lv_at hl 0 rfl) ?_
        exact hret H locs () (nI j) _ _ hP hD hS ⟨rfl, rfl⟩ d_Prec_checkIndex_17
      · skip
        exact absurd (nI_lt hj hn) c_6
  rw [hH, hlo] at goal
  exact goal
set_option maxHeartbeats 4000000 in
set_option maxRecDepth 100000 in
theorem c_Prec_checkIndexR {j n : Nat} (hj : j < n) (hn : n < 2 ^ 31) (tz : Nat) : hx_Mi l D tys adK adV tF (fun _ : Unit => []) y_Prec_checkIndex w_Prec_checkIndex (rmD 1) [.int (nI j), .int (nI n), .ref tz] () (nI j) () := by
  refine hx_Mi.of (cc := b_Prec_checkIndex) (maxL := 3) rfl (by decide) rfl (Nat.le_of_ble_eq_true rfl) ?_
  intro p e s m below meth c A Q ls hI hX hA hP hD hS hl hret
  obtain ⟨hx, hb, hml, hown, hts⟩ := id hI
  have hts : ∀ w ∈ aw, w.before ([.int (nI j), .int (nI n), .ref tz] : List Value).toArray s = true := fun w h => hts w (List.mem_cons_of_mem _ h)
  have hown : s.vm.findClass "jdk/internal/util/Preconditions" = some m.cls := hown
  have hI : hx_In p s m ([.int (nI j), .int (nI n), .ref tz] : List Value).toArray c b_Prec_checkIndex 3 "jdk/internal/util/Preconditions" aw := ⟨hx, hb, hml, hown, hts⟩
  have hP : va_P D vwCl ([]) s.heap := hP
  obtain ⟨H, hH⟩ : ∃ H, H = s.heap := ⟨_, rfl⟩
  obtain ⟨locs, hlo⟩ : ∃ locs : List Loc, locs = [] := ⟨_, rfl⟩
  have hS : va_S A s.heap H locs := by rw [hH, hlo]; exact hS
  have hP : va_P D vwCl ([]) H := by rw [hH]; exact hP
  have hl : lv_has ls 3 [(0, .int (nI j)), (1, .int (nI n)), (2, .ref tz)] := hl
  have goal : W p l e (rmD 1) s m ([.int (nI j), .int (nI n), .ref tz] : List Value).toArray below meth c H locs 0 0 Q (F0 m 0 ls []) := by
    refine lv_iload_n hx hb d_Prec_checkIndex_0 rfl (lv_at hl 0 rfl) ?_
    refine lv_if_lt (tgt := 9) hx hb d_Prec_checkIndex_1 (by decide) (fun c_1 => ?_) (fun c_1 => ?_)
    · skip
      exact absurd c_1 (nI_pos (by omega))
    · skip
      have c_1 : ¬ (nI j < 0) := c_1
      refine lv_iload_n hx hb d_Prec_checkIndex_4 rfl (lv_at hl 0 rfl) ?_
      refine lv_iload_n hx hb d_Prec_checkIndex_5 rfl (lv_at hl 1 rfl) ?_
      refine lv_icmp_lt (tgt := 16) hx hb d_Prec_checkIndex_6 (by decide) (fun c_6 => ?_) (fun c_6 => ?_)
      · skip
        have c_6 : (nI j < nI n) := c_6
        refine lv_iload_n hx hb d_Prec_checkIndex_16 rfl (lv_at hl 0 rfl) ?_
        exact hret H locs () (nI j) _ _ hP hD hS ⟨rfl, rfl⟩ d_Prec_checkIndex_17
      · skip
        exact absurd (nI_lt hj hn) c_6
  rw [hH, hlo] at goal
  exact goal
set_option maxHeartbeats 4000000 in
set_option maxRecDepth 100000 in
theorem c_String_checkIndex {j n : Nat} (hj : j < n) (hn : n < 2 ^ 31) : hx_Mv l D tys adK adV tF (fun _ : Unit => []) y_String_checkIndex w_String_checkIndex (rmD 2) [.int (nI j), .int (nI n)] () () := by
  refine hx_Mv.of (cc := b_String_checkIndex) (maxL := 2) (by decide) rfl (Nat.le_of_ble_eq_true rfl) ?_
  intro p e s m below meth c A Q ls hI hX hA hP hD hS hl hret
  obtain ⟨hx, hb, hml, hown, hts⟩ := id hI
  have hts : ∀ w ∈ aw, w.before ([.int (nI j), .int (nI n)] : List Value).toArray s = true := fun w h => hts w (List.mem_cons_of_mem _ h)
  have hown : s.vm.findClass "java/lang/String" = some m.cls := hown
  have hI : hx_In p s m ([.int (nI j), .int (nI n)] : List Value).toArray c b_String_checkIndex 2 "java/lang/String" aw := ⟨hx, hb, hml, hown, hts⟩
  have hP : va_P D vwCl ([]) s.heap := hP
  obtain ⟨H, hH⟩ : ∃ H, H = s.heap := ⟨_, rfl⟩
  obtain ⟨locs, hlo⟩ : ∃ locs : List Loc, locs = [] := ⟨_, rfl⟩
  have hS : va_S A s.heap H locs := by rw [hH, hlo]; exact hS
  have hP : va_P D vwCl ([]) H := by rw [hH]; exact hP
  have hl : lv_has ls 2 [(0, .int (nI j)), (1, .int (nI n))] := hl
  have goal : W p l e (rmD 2) s m ([.int (nI j), .int (nI n)] : List Value).toArray below meth c H locs 0 0 Q (F0 m 0 ls []) := by
    refine lv_iload_n hx hb d_String_checkIndex_0 rfl (lv_at hl 0 rfl) ?_
    refine lv_iload_n hx hb d_String_checkIndex_1 rfl (lv_at hl 1 rfl) ?_
    rcases hX.2.2.2.2.2.2.1 with hZ | ⟨tz, hZ⟩
    · refine va_gets hx hb hZ hS hown (hts _ m_2_63) (fun _ h9 => h9) d_String_checkIndex_2 ?_
      refine hx_Si (wr := []) (As := [.int (nI j), .int (nI n), .null]) (rest := []) hI (c_Prec_checkIndexN hj hn) (cw_S 3 hts m_2_65 m_2_66 m_1_13 m_2_67 (by decide +kernel) ⟨by decide, by decide⟩) hX hA hP hD hS [] [] rfl rfl (by decide) (by decide) (by decide) rfl hl.1 rfl (Nat.le_of_ble_eq_true rfl) d_String_checkIndex_5 ⟨Nat.zero_le _, Nat.zero_le _⟩ (fun H locs hP hD hS => ?_)
      have hP : va_P D vwCl ([]) H := hP
      have hD : va_D A ([]) := hD
      refine lv_pop hx hb d_String_checkIndex_8 rfl ?_
      exact hret H locs () _ _ hP hD hS rfl d_String_checkIndex_9
    · refine va_gets hx hb hZ hS hown (hts _ m_2_63) (fun _ h9 => h9) d_String_checkIndex_2 ?_
      refine hx_Si (wr := []) (As := [.int (nI j), .int (nI n), .ref tz]) (rest := []) hI (c_Prec_checkIndexR hj hn tz) (cw_S 3 hts m_2_65 m_2_66 m_1_13 m_2_67 (by decide +kernel) ⟨by decide, by decide⟩) hX hA hP hD hS [] [] rfl rfl (by decide) (by decide) (by decide) rfl hl.1 rfl (Nat.le_of_ble_eq_true rfl) d_String_checkIndex_5 ⟨Nat.zero_le _, Nat.zero_le _⟩ (fun H locs hP hD hS => ?_)
      have hP : va_P D vwCl ([]) H := hP
      have hD : va_D A ([]) := hD
      refine lv_pop hx hb d_String_checkIndex_8 rfl ?_
      exact hret H locs () _ _ hP hD hS rfl d_String_checkIndex_9
  rw [hH, hlo] at goal
  exact goal
set_option maxHeartbeats 4000000 in
set_option maxRecDepth 100000 in
theorem c_Latin_charAt {i : Nat} (hi : i < nJS) {j : Nat} (hj : j < (sw i).length) : hx_Mi l D tys adK adV tF (fun _ : Unit => []) y_Latin_charAt w_Latin_charAt (rmD 3) [.ref (adV i), .int (nI j)] () ((sw i).getD j 0) () := by
  refine hx_Mi.of (cc := b_Latin_charAt) (maxL := 2) (sw_nar hi hj) (by decide) rfl (Nat.le_of_ble_eq_true rfl) ?_
  intro p e s m below meth c A Q ls hI hX hA hP hD hS hl hret
  obtain ⟨hx, hb, hml, hown, hts⟩ := id hI
  have hts : ∀ w ∈ aw, w.before ([.ref (adV i), .int (nI j)] : List Value).toArray s = true := fun w h => hts w (List.mem_cons_of_mem _ h)
  have hown : s.vm.findClass "java/lang/StringLatin1" = some m.cls := hown
  have hI : hx_In p s m ([.ref (adV i), .int (nI j)] : List Value).toArray c b_Latin_charAt 2 "java/lang/StringLatin1" aw := ⟨hx, hb, hml, hown, hts⟩
  have hP : va_P D vwCl ([]) s.heap := hP
  obtain ⟨H, hH⟩ : ∃ H, H = s.heap := ⟨_, rfl⟩
  obtain ⟨locs, hlo⟩ : ∃ locs : List Loc, locs = [] := ⟨_, rfl⟩
  have hS : va_S A s.heap H locs := by rw [hH, hlo]; exact hS
  have hP : va_P D vwCl ([]) H := by rw [hH]; exact hP
  have hl : lv_has ls 2 [(0, .ref (adV i)), (1, .int (nI j))] := hl
  have goal : W p l e (rmD 3) s m ([.ref (adV i), .int (nI j)] : List Value).toArray below meth c H locs 0 0 Q (F0 m 0 ls []) := by
    refine lv_iload_n hx hb d_Latin_charAt_0 rfl (lv_at hl 1 rfl) ?_
    refine lv_aload_n hx hb d_Latin_charAt_1 rfl (lv_at hl 0 rfl) ?_
    refine va_tlen (v := nI (sw i).length) hx hb (hX.2.1 i hi).2.2.2 hS (by rw [(sw_all i hi).2.1]; rfl) d_Latin_charAt_2 ?_
    refine hx_Sv (wr := []) (As := [.int (nI j), .int (nI (sw i).length)]) (rest := []) hI (c_String_checkIndex (n := (sw i).length) hj (by have := sw_len hi; omega)) (cw_S 2 hts m_2_60 m_2_61 m_1_11 m_2_62 (by decide +kernel) ⟨by decide, by decide⟩) hX hA hP hD hS [] [] rfl rfl (by decide) (by decide) (by decide) rfl hl.1 rfl (Nat.le_of_ble_eq_true rfl) d_Latin_charAt_3 ⟨Nat.zero_le _, Nat.zero_le _⟩ (fun H locs hP hD hS => ?_)
    have hP : va_P D vwCl ([]) H := hP
    have hD : va_D A ([]) := hD
    refine lv_aload_n hx hb d_Latin_charAt_6 rfl (lv_at hl 0 rfl) ?_
    refine lv_iload_n hx hb d_Latin_charAt_7 rfl (lv_at hl 1 rfl) ?_
    refine va_tb (v := .int ((sw i).getD j 0)) hx hb (hX.2.1 i hi).2.2.2 hS (by rw [(sw_all i hi).2.1]; exact vp_in_nI hj (by have := sw_len hi; omega)) (by show Value.int ((bytJS.getD i []).getD (nI j).toNatClampNeg 0) = _; rw [nI_clamp (by have := sw_len hi; omega)]; rfl) d_Latin_charAt_8 ?_
    refine lv_sipush (v := 255) hx hb d_Latin_charAt_9 (by decide) ?_
    refine lv_iand hx hb d_Latin_charAt_12 ?_
    refine lv_i2c (v := ((((sw i).getD j 0) &&& 255).toUInt32 % 65536).toInt32) hx hb d_Latin_charAt_13 rfl ?_
    refine hx_top (v := (sw i).getD j 0) (sw_c hi hj) ?_
    exact hret H locs () ((sw i).getD j 0) _ _ hP hD hS ⟨rfl, rfl⟩ d_Latin_charAt_14
  rw [hH, hlo] at goal
  exact goal
set_option maxHeartbeats 4000000 in
set_option maxRecDepth 100000 in
theorem c_String_coder {i : Nat} (hi : i < nJS) : hx_Mi l D tys adK adV tF (fun _ : Unit => []) y_String_coder w_String_coder (rmD 1) [.ref (adK i)] () 0 () := by
  refine hx_Mi.of (cc := b_String_coder) (maxL := 1) rfl (by decide) rfl (Nat.le_of_ble_eq_true rfl) ?_
  intro p e s m below meth c A Q ls hI hX hA hP hD hS hl hret
  obtain ⟨hx, hb, hml, hown, hts⟩ := id hI
  have hts : ∀ w ∈ aw, w.before ([.ref (adK i)] : List Value).toArray s = true := fun w h => hts w (List.mem_cons_of_mem _ h)
  have hown : s.vm.findClass "java/lang/String" = some m.cls := hown
  have hI : hx_In p s m ([.ref (adK i)] : List Value).toArray c b_String_coder 1 "java/lang/String" aw := ⟨hx, hb, hml, hown, hts⟩
  have hP : va_P D vwCl ([]) s.heap := hP
  obtain ⟨H, hH⟩ : ∃ H, H = s.heap := ⟨_, rfl⟩
  obtain ⟨locs, hlo⟩ : ∃ locs : List Loc, locs = [] := ⟨_, rfl⟩
  have hS : va_S A s.heap H locs := by rw [hH, hlo]; exact hS
  have hP : va_P D vwCl ([]) H := by rw [hH]; exact hP
  have hl : lv_has ls 1 [(0, .ref (adK i))] := hl
  have goal : W p l e (rmD 1) s m ([.ref (adK i)] : List Value).toArray below meth c H locs 0 0 Q (F0 m 0 ls []) := by
    refine va_gets hx hb hX.2.2.2.2.1 hS hown (hts _ m_2_39) (fun _ h9 => h9) d_String_coder_0 ?_
    refine lv_if_eq (tgt := 13) hx hb d_String_coder_3 (by decide) (fun c_3 => ?_) (fun c_3 => ?_)
    · skip
      exact absurd c_3 (by decide)
    · skip
      refine lv_aload_n hx hb d_String_coder_6 rfl (lv_at hl 0 rfl) ?_
      refine vk_getf hx hb (hX.2.1 _ hi).2.1 hS hown (hts _ m_3_231) (fun _ h9 => h9) d_String_coder_7 ?_
      refine lv_goto (tgt := 14) hx hb d_String_coder_10 (by decide) ?_
      exact hret H locs () 0 _ _ hP hD hS ⟨rfl, rfl⟩ d_String_coder_14
  rw [hH, hlo] at goal
  exact goal
set_option maxHeartbeats 4000000 in
set_option maxRecDepth 100000 in
theorem c_String_isLatin1 {i : Nat} (hi : i < nJS) : hx_Mz l D tys adK adV tF (fun _ : Unit => []) y_String_isLatin1 w_String_isLatin1 (rmD 1) [.ref (adK i)] () true () := by
  refine hx_Mz.of (cc := b_String_isLatin1) (maxL := 1) (by decide) rfl (Nat.le_of_ble_eq_true rfl) ?_
  intro p e s m below meth c A Q ls hI hX hA hP hD hS hl hret
  obtain ⟨hx, hb, hml, hown, hts⟩ := id hI
  have hts : ∀ w ∈ aw, w.before ([.ref (adK i)] : List Value).toArray s = true := fun w h => hts w (List.mem_cons_of_mem _ h)
  have hown : s.vm.findClass "java/lang/String" = some m.cls := hown
  have hI : hx_In p s m ([.ref (adK i)] : List Value).toArray c b_String_isLatin1 1 "java/lang/String" aw := ⟨hx, hb, hml, hown, hts⟩
  have hP : va_P D vwCl ([]) s.heap := hP
  obtain ⟨H, hH⟩ : ∃ H, H = s.heap := ⟨_, rfl⟩
  obtain ⟨locs, hlo⟩ : ∃ locs : List Loc, locs = [] := ⟨_, rfl⟩
  have hS : va_S A s.heap H locs := by rw [hH, hlo]; exact hS
  have hP : va_P D vwCl ([]) H := by rw [hH]; exact hP
  have hl : lv_has ls 1 [(0, .ref (adK i))] := hl
  have goal : W p l e (rmD 1) s m ([.ref (adK i)] : List Value).toArray below meth c H locs 0 0 Q (F0 m 0 ls []) := by
    refine va_gets hx hb hX.2.2.2.2.1 hS hown (hts _ m_2_39) (fun _ h9 => h9) d_String_isLatin1_0 ?_
    refine lv_if_eq (tgt := 17) hx hb d_String_isLatin1_3 (by decide) (fun c_3 => ?_) (fun c_3 => ?_)
    · skip
      exact absurd c_3 (by decide)
    · skip
      refine lv_aload_n hx hb d_String_isLatin1_6 rfl (lv_at hl 0 rfl) ?_
      refine vk_getf hx hb (hX.2.1 _ hi).2.1 hS hown (hts _ m_3_231) (fun _ h9 => h9) d_String_isLatin1_7 ?_
      refine lv_if_ne (tgt := 17) hx hb d_String_isLatin1_10 (by decide) (fun c_10 => ?_) (fun c_10 => ?_)
      · skip
        exact absurd rfl c_10
      · skip
        refine lv_iconst (v := 1) hx hb d_String_isLatin1_13 (by decide) ?_
        refine lv_goto (tgt := 18) hx hb d_String_isLatin1_14 (by decide) ?_
        exact hret H locs () true _ _ hP hD hS ⟨rfl, rfl⟩ d_String_isLatin1_18
  rw [hH, hlo] at goal
  exact goal
set_option maxHeartbeats 4000000 in
set_option maxRecDepth 100000 in
theorem c_String_length {i : Nat} (hi : i < nJS) : hx_Mi l D tys adK adV tF (fun _ : Unit => []) y_String_length w_String_length (rmD 2) [.ref (adK i)] () (nI (sw i).length) () := by
  refine hx_Mi.of (cc := b_String_length) (maxL := 1) rfl (by decide) rfl (Nat.le_of_ble_eq_true rfl) ?_
  intro p e s m below meth c A Q ls hI hX hA hP hD hS hl hret
  obtain ⟨hx, hb, hml, hown, hts⟩ := id hI
  have hts : ∀ w ∈ aw, w.before ([.ref (adK i)] : List Value).toArray s = true := fun w h => hts w (List.mem_cons_of_mem _ h)
  have hown : s.vm.findClass "java/lang/String" = some m.cls := hown
  have hI : hx_In p s m ([.ref (adK i)] : List Value).toArray c b_String_length 1 "java/lang/String" aw := ⟨hx, hb, hml, hown, hts⟩
  have hP : va_P D vwCl ([]) s.heap := hP
  obtain ⟨H, hH⟩ : ∃ H, H = s.heap := ⟨_, rfl⟩
  obtain ⟨locs, hlo⟩ : ∃ locs : List Loc, locs = [] := ⟨_, rfl⟩
  have hS : va_S A s.heap H locs := by rw [hH, hlo]; exact hS
  have hP : va_P D vwCl ([]) H := by rw [hH]; exact hP
  have hl : lv_has ls 1 [(0, .ref (adK i))] := hl
  have goal : W p l e (rmD 2) s m ([.ref (adK i)] : List Value).toArray below meth c H locs 0 0 Q (F0 m 0 ls []) := by
    refine lv_aload_n hx hb d_String_length_0 rfl (lv_at hl 0 rfl) ?_
    refine vk_getf hx hb (hX.2.1 _ hi).2.2.1 hS hown (hts _ m_3_230) (fun _ h9 => h9) d_String_length_1 ?_
    refine va_tlen (v := nI (sw i).length) hx hb (hX.2.1 i hi).2.2.2 hS (by rw [(sw_all i hi).2.1]; rfl) d_String_length_4 ?_
    refine lv_aload_n hx hb d_String_length_5 rfl (lv_at hl 0 rfl) ?_
    refine hx_Vi (wr := []) (As := []) (rest := [.int (nI (sw i).length)]) hI (c_String_coder hi) (cw_V (C := "java/lang/String") 0 hts m_2_35 m_2_36 m_2_37 m_1_11 m_2_38 (by decide +kernel) ⟨by decide, by decide⟩) hX hA hP hD hS [] [] rfl rfl (by decide) (by decide) (by decide) (va_Orecv (hX.2.1 _ hi).1 hS) rfl hl.1 rfl (Nat.le_of_ble_eq_true rfl) d_String_length_6 ⟨Nat.zero_le _, Nat.zero_le _⟩ (fun H locs hP hD hS => ?_)
    have hP : va_P D vwCl ([]) H := hP
    have hD : va_D A ([]) := hD
    refine lv_ishr hx hb d_String_length_9 ?_
    refine hx_top (v := nI (sw i).length) (sb_shr0 _) ?_
    exact hret H locs () (nI (sw i).length) _ _ hP hD hS ⟨rfl, rfl⟩ d_String_length_10
  rw [hH, hlo] at goal
  exact goal
set_option maxHeartbeats 4000000 in
set_option maxRecDepth 100000 in
theorem c_String_charAt {i : Nat} (hi : i < nJS) {j : Nat} (hj : j < (sw i).length) : hx_Mi l D tys adK adV tF (fun _ : Unit => []) y_String_charAt w_String_charAt (rmD 4) [.ref (adK i), .int (nI j)] () ((sw i).getD j 0) () := by
  refine hx_Mi.of (cc := b_String_charAt) (maxL := 2) (sw_nar hi hj) (by decide) rfl (Nat.le_of_ble_eq_true rfl) ?_
  intro p e s m below meth c A Q ls hI hX hA hP hD hS hl hret
  obtain ⟨hx, hb, hml, hown, hts⟩ := id hI
  have hts : ∀ w ∈ aw, w.before ([.ref (adK i), .int (nI j)] : List Value).toArray s = true := fun w h => hts w (List.mem_cons_of_mem _ h)
  have hown : s.vm.findClass "java/lang/String" = some m.cls := hown
  have hI : hx_In p s m ([.ref (adK i), .int (nI j)] : List Value).toArray c b_String_charAt 2 "java/lang/String" aw := ⟨hx, hb, hml, hown, hts⟩
  have hP : va_P D vwCl ([]) s.heap := hP
  obtain ⟨H, hH⟩ : ∃ H, H = s.heap := ⟨_, rfl⟩
  obtain ⟨locs, hlo⟩ : ∃ locs : List Loc, locs = [] := ⟨_, rfl⟩
  have hS : va_S A s.heap H locs := by rw [hH, hlo]; exact hS
  have hP : va_P D vwCl ([]) H := by rw [hH]; exact hP
  have hl : lv_has ls 2 [(0, .ref (adK i)), (1, .int (nI j))] := hl
  have goal : W p l e (rmD 4) s m ([.ref (adK i), .int (nI j)] : List Value).toArray below meth c H locs 0 0 Q (F0 m 0 ls []) := by
    refine lv_aload_n hx hb d_String_charAt_0 rfl (lv_at hl 0 rfl) ?_
    refine hx_Vz (wr := []) (As := []) (rest := []) hI (c_String_isLatin1 hi) (cw_V (C := "java/lang/String") 0 hts m_2_53 m_2_54 m_2_55 m_1_11 m_2_56 (by decide +kernel) ⟨by decide, by decide⟩) hX hA hP hD hS [] [] rfl rfl (by decide) (by decide) (by decide) (va_Orecv (hX.2.1 _ hi).1 hS) rfl hl.1 rfl (Nat.le_of_ble_eq_true rfl) d_String_charAt_1 ⟨Nat.zero_le _, Nat.zero_le _⟩ (fun H locs hP hD hS => ?_)
    have hP : va_P D vwCl ([]) H := hP
    have hD : va_D A ([]) := hD
    refine lv_if_eq (tgt := 16) hx hb d_String_charAt_4 (by decide) (fun c_4 => ?_) (fun c_4 => ?_)
    · skip
      exact absurd c_4 (by decide)
    · skip
      have c_4 : true = true := bI_1 c_4
      refine lv_aload_n hx hb d_String_charAt_7 rfl (lv_at hl 0 rfl) ?_
      refine vk_getf hx hb (hX.2.1 _ hi).2.2.1 hS hown (hts _ m_3_230) (fun _ h9 => h9) d_String_charAt_8 ?_
      refine lv_iload_n hx hb d_String_charAt_11 rfl (lv_at hl 1 rfl) ?_
      refine hx_Si (wr := []) (As := [.ref (adV i), .int (nI j)]) (rest := []) hI (c_Latin_charAt hi hj) (cw_S 2 hts m_2_57 m_2_58 m_1_12 m_2_59 (by decide +kernel) ⟨by decide, by decide⟩) hX hA hP hD hS [] [] rfl rfl (by decide) (by decide) (by decide) rfl hl.1 rfl (Nat.le_of_ble_eq_true rfl) d_String_charAt_12 ⟨Nat.zero_le _, Nat.zero_le _⟩ (fun H locs hP hD hS => ?_)
      have hP : va_P D vwCl ([]) H := hP
      have hD : va_D A ([]) := hD
      exact hret H locs () ((sw i).getD j 0) _ _ hP hD hS ⟨rfl, rfl⟩ d_String_charAt_15
  rw [hH, hlo] at goal
  exact goal
