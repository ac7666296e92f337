variable {l : Launch} {D : va_G} {ad : Nat → Nat} {cd : Nat → ClassId} {adK adV : Nat → Nat} {tF : Nat} {T : TX} {tys : List (ClassId × FieldType)}

set_option maxHeartbeats 4000000 in
set_option maxRecDepth 100000 in
theorem c_Reader_isWordFrom (hT : T.2 ≤ 300) (st : RS) (x : Int32) (z : Int32) : hx_Mz l D (tyH cd) adK adV tF (rdW ad cd T) y_Reader_isWordFrom w_Reader_isWordFrom (rmD 2) [.ref (ad 0), .int x, .int z] st (fIsF T st x z) st := by
  refine hx_Mz.of (cc := b_Reader_isWordFrom) (maxL := 4) (by decide) rfl (Nat.le_of_ble_eq_true rfl) ?_
  intro p e s m below meth c A Q ls hI hX hA hP hD hS hl hret
  obtain ⟨hx, hb, hml, hown, hts⟩ := id hI
  have hts : ∀ w ∈ aw, w.before ([.ref (ad 0), .int x, .int z] : List Value).toArray s = true := fun w h => hts w (List.mem_cons_of_mem _ h)
  have hown : s.vm.findClass "HeadDesk$Reader" = some m.cls := hown
  have hI : hx_In p s m ([.ref (ad 0), .int x, .int z] : List Value).toArray c b_Reader_isWordFrom 4 "HeadDesk$Reader" aw := ⟨hx, hb, hml, hown, hts⟩
  have hP : va_P D vwCl (rdW ad cd T st) s.heap := hP
  obtain ⟨H, hH⟩ : ∃ H, H = s.heap := ⟨_, rfl⟩
  obtain ⟨locs, hlo⟩ : ∃ locs : List Loc, locs = [] := ⟨_, rfl⟩
  have hS : va_S A s.heap H locs := by rw [hH, hlo]; exact hS
  have hP : va_P D vwCl (rdW ad cd T st) H := by rw [hH]; exact hP
  have hl : lv_has ls 4 [(0, .ref (ad 0)), (1, .int x), (2, .int z)] := hl
  have goal : W p l e (rmD 2) s m ([.ref (ad 0), .int x, .int z] : List Value).toArray below meth c H locs 0 0 Q (F0 m 0 ls []) := by
    refine lv_aload_n hx hb d_Reader_isWordFrom_0 rfl (lv_at hl 0 rfl) ?_
    refine va_get (D := D) (ci := 1) (v := .int (rWe st)) (C := "HeadDesk$Reader") (T := F_Reader) (N := 11) hx hb hts a_Reader hown hX.1 hP 0 rfl rfl 10 (by decide) (hts _ m_1_71) (fun _ h9 => h9) rfl d_Reader_isWordFrom_1 ?_
    refine lv_aload_n hx hb d_Reader_isWordFrom_4 rfl (lv_at hl 0 rfl) ?_
    refine va_get (D := D) (ci := 1) (v := .int (rWs st)) (C := "HeadDesk$Reader") (T := F_Reader) (N := 11) hx hb hts a_Reader hown hX.1 hP 0 rfl rfl 9 (by decide) (hts _ m_1_70) (fun _ h9 => h9) rfl d_Reader_isWordFrom_5 ?_
    refine lv_isub hx hb d_Reader_isWordFrom_8 ?_
    refine lv_iload_n hx hb d_Reader_isWordFrom_9 rfl (lv_at hl 2 rfl) ?_
    refine lv_iload_n hx hb d_Reader_isWordFrom_10 rfl (lv_at hl 1 rfl) ?_
    refine lv_isub hx hb d_Reader_isWordFrom_11 ?_
    refine lv_icmp_eq (tgt := 17) hx hb d_Reader_isWordFrom_12 (by decide) (fun c_12 => ?_) (fun c_12 => ?_)
    · skip
      have c_12 : ((rWe st) - (rWs st) = z - x) := c_12
      refine lv_iconst (v := 0) hx hb d_Reader_isWordFrom_17 (by decide) ?_
      refine lv_istore_n (lv' := [(3, .int 0), (0, .ref (ad 0)), (1, .int x), (2, .int z)]) hx hb d_Reader_isWordFrom_18 rfl hl (by decide) rfl (fun ls hl => ?_)
      have loop19 : ∀ (k : Nat) (j : Nat) (H : Heap) (locs : List Loc) (ls : Array Slot), j + k = (z - x).toNatClampNeg → fIsF T st x z = eqL T (rWs st) x k j → va_P D vwCl (rdW ad cd T st) H → va_D A (rdW ad cd T st) → va_S A s.heap H locs → lv_has ls 4 [(3, .int (nI j)), (0, .ref (ad 0)), (1, .int x), (2, .int z)] → W p l e (rmD 2) s m ([.ref (ad 0), .int x, .int z] : List Value).toArray below meth c H locs 0 0 Q (F0 m 19 ls []) := by
        intro k
        induction k with
        | zero =>
          intro j H locs ls hj hF hP hD hS hl
          refine lv_iload_n hx hb d_Reader_isWordFrom_19 rfl (lv_at hl 0 rfl) ?_
          refine lv_iload_n hx hb d_Reader_isWordFrom_20 rfl (lv_at hl 3 rfl) ?_
          refine lv_iload_n hx hb d_Reader_isWordFrom_21 rfl (lv_at hl 2 rfl) ?_
          refine lv_isub hx hb d_Reader_isWordFrom_22 ?_
          refine lv_icmp_ge (tgt := 60) hx hb d_Reader_isWordFrom_23 (by decide) (fun c_23 => ?_) (fun c_23 => ?_)
          · skip
            have c_23 : (z - x ≤ nI j) := c_23
            refine lv_iconst (v := 1) hx hb d_Reader_isWordFrom_60 (by decide) ?_
            exact hret H locs st true _ _ hP hD hS ⟨(by first | (rw [hF]; ((try simp only [eqL]) <;> simp only [eqL, if_pos c_23, fStop, if_true, if_false, Bool.false_eq_true, ↓reduceIte]); done) | (rw [hF]; ((try simp only [eqL]) <;> simp only [eqL, if_pos c_23, fStop, if_true, if_false, Bool.false_eq_true, ↓reduceIte]); with_reducible rfl)), rfl⟩ d_Reader_isWordFrom_61
          · skip
            exact absurd (nI_cyes (by omega) (by have := cl_le (z - x); omega)) c_23
        | succ k ih =>
          intro j H locs ls hj hF hP hD hS hl
          refine lv_iload_n hx hb d_Reader_isWordFrom_19 rfl (lv_at hl 0 rfl) ?_
          refine lv_iload_n hx hb d_Reader_isWordFrom_20 rfl (lv_at hl 3 rfl) ?_
          refine lv_iload_n hx hb d_Reader_isWordFrom_21 rfl (lv_at hl 2 rfl) ?_
          refine lv_isub hx hb d_Reader_isWordFrom_22 ?_
          refine lv_icmp_ge (tgt := 60) hx hb d_Reader_isWordFrom_23 (by decide) (fun c_23 => ?_) (fun c_23 => ?_)
          · skip
            exact absurd c_23 (nI_cno (by omega))
          · skip
            have c_23 : ¬ (z - x ≤ nI j) := c_23
            refine lv_aload_n hx hb d_Reader_isWordFrom_26 rfl (lv_at hl 1 rfl) ?_
            refine va_get (D := D) (ci := 1) (v := .ref (ad 1)) (C := "HeadDesk$Reader") (T := F_Reader) (N := 11) hx hb hts a_Reader hown hX.1 hP 0 rfl rfl 0 (by decide) (hts _ m_1_60) (fun _ h9 => h9) rfl d_Reader_isWordFrom_27 ?_
            refine lv_aload_n hx hb d_Reader_isWordFrom_30 rfl (lv_at hl 1 rfl) ?_
            refine va_get (D := D) (ci := 1) (v := .int (rWs st)) (C := "HeadDesk$Reader") (T := F_Reader) (N := 11) hx hb hts a_Reader hown hX.1 hP 0 rfl rfl 9 (by decide) (hts _ m_1_70) (fun _ h9 => h9) rfl d_Reader_isWordFrom_31 ?_
            refine lv_iload_n hx hb d_Reader_isWordFrom_34 rfl (lv_at hl 0 rfl) ?_
            refine lv_iadd hx hb d_Reader_isWordFrom_35 ?_
            refine hx_Vi (wr := [(ad 0, .inr (1, [.ref (ad 1), .ref (ad 3), .ref (ad 4), .ref (ad 5), .int (rNm st), .int (rKd st), .int (rPl st), .int (rSk st), .int (rNb st), .int (rWs st), .int (rWe st)])), (ad 3, .inl (cd 1, 100, .inl (rNs st))), (ad 4, .inl (cd 2, 100, .inl (rNe st))), (ad 5, .inr (0, [.ref (ad 6), .ref (ad 7)])), (ad 6, .inl (cd 3, 18, .inl (rVs st))), (ad 7, .inl (cd 4, 8, .inl (rVr st)))]) (As := [.int ((rWs st) + (nI j))]) (rest := []) hI (c_Tape_markAt hT ((rWs st) + (nI j))) (cw_V (C := "HeadDesk$Tape") 1 hts m_2_45 m_2_46 m_2_47 m_1_3 m_2_48 (by decide +kernel) ⟨by decide, by decide⟩) hX hA hP hD hS [1, 2] [0, 3, 4, 5, 6, 7] rfl rfl (by decide) (by decide) (by decide) (va_recv hX.1 hP (ci := 2) (q0 := 1) rfl rfl) rfl hl.1 rfl (Nat.le_of_ble_eq_true rfl) d_Reader_isWordFrom_36 ⟨Nat.zero_le _, Nat.zero_le _⟩ (fun H locs hP hD hS => ?_)
            have hP : va_P D vwCl (rdW ad cd T st) H := hP.sub [0, 6, 7, 1, 2, 3, 4, 5] rfl
            have hD : va_D A (rdW ad cd T st) := hD.sub [0, 6, 7, 1, 2, 3, 4, 5] (by decide) rfl
            refine lv_aload_n hx hb d_Reader_isWordFrom_39 rfl (lv_at hl 1 rfl) ?_
            refine va_get (D := D) (ci := 1) (v := .ref (ad 1)) (C := "HeadDesk$Reader") (T := F_Reader) (N := 11) hx hb hts a_Reader hown hX.1 hP 0 rfl rfl 0 (by decide) (hts _ m_1_60) (fun _ h9 => h9) rfl d_Reader_isWordFrom_40 ?_
            refine lv_iload_n hx hb d_Reader_isWordFrom_43 rfl (lv_at hl 2 rfl) ?_
            refine lv_iload_n hx hb d_Reader_isWordFrom_44 rfl (lv_at hl 0 rfl) ?_
            refine lv_iadd hx hb d_Reader_isWordFrom_45 ?_
            refine hx_Vi (wr := [(ad 0, .inr (1, [.ref (ad 1), .ref (ad 3), .ref (ad 4), .ref (ad 5), .int (rNm st), .int (rKd st), .int (rPl st), .int (rSk st), .int (rNb st), .int (rWs st), .int (rWe st)])), (ad 3, .inl (cd 1, 100, .inl (rNs st))), (ad 4, .inl (cd 2, 100, .inl (rNe st))), (ad 5, .inr (0, [.ref (ad 6), .ref (ad 7)])), (ad 6, .inl (cd 3, 18, .inl (rVs st))), (ad 7, .inl (cd 4, 8, .inl (rVr st)))]) (As := [.int (x + (nI j))]) (rest := [.int (mAt T ((rWs st) + (nI j)))]) hI (c_Tape_markAt hT (x + (nI j))) (cw_V (C := "HeadDesk$Tape") 1 hts m_2_45 m_2_46 m_2_47 m_1_3 m_2_48 (by decide +kernel) ⟨by decide, by decide⟩) hX hA hP hD hS [1, 2] [0, 3, 4, 5, 6, 7] rfl rfl (by decide) (by decide) (by decide) (va_recv hX.1 hP (ci := 2) (q0 := 1) rfl rfl) rfl hl.1 rfl (Nat.le_of_ble_eq_true rfl) d_Reader_isWordFrom_46 ⟨Nat.zero_le _, Nat.zero_le _⟩ (fun H locs hP hD hS => ?_)
            have hP : va_P D vwCl (rdW ad cd T st) H := hP.sub [0, 6, 7, 1, 2, 3, 4, 5] rfl
            have hD : va_D A (rdW ad cd T st) := hD.sub [0, 6, 7, 1, 2, 3, 4, 5] (by decide) rfl
            refine lv_icmp_eq (tgt := 54) hx hb d_Reader_isWordFrom_49 (by decide) (fun c_49 => ?_) (fun c_49 => ?_)
            · skip
              have c_49 : (mAt T ((rWs st) + (nI j)) = mAt T (x + (nI j))) := c_49
              refine lv_iinc (v := nI (j + 1)) (lv' := [(3, .int (nI (j + 1))), (0, .ref (ad 0)), (1, .int x), (2, .int z)]) hx hb d_Reader_isWordFrom_54 hl (k := 0) rfl (by rw [nI_succ]; rfl) (by decide) rfl (fun ls hl => ?_)
              refine lv_goto (tgt := 19) hx hb d_Reader_isWordFrom_57 (by decide) ?_
              exact ih (j + 1)  H locs ls (by omega)  (by first | (rw [hF]; ((try simp only [eqL]) <;> simp only [eqL, if_neg c_23, if_pos c_49, fStop, if_true, if_false, Bool.false_eq_true, ↓reduceIte]); done) | (rw [hF]; ((try simp only [eqL]) <;> simp only [eqL, if_neg c_23, if_pos c_49, fStop, if_true, if_false, Bool.false_eq_true, ↓reduceIte]); with_reducible rfl)) hP hD hS (lv_sub hl [0, 1, 2, 3] rfl)
            · skip
              have c_49 : ¬ (mAt T ((rWs st) + (nI j)) = mAt T (x + (nI j))) := c_49
              refine lv_iconst (v := 0) hx hb d_Reader_isWordFrom_52 (by decide) ?_
              exact hret H locs st false _ _ hP hD hS ⟨(by first | (rw [hF]; ((try simp only [eqL]) <;> simp only [eqL, if_neg c_23, if_neg c_49, fStop, if_true, if_false, Bool.false_eq_true, ↓reduceIte]); done) | (rw [hF]; ((try simp only [eqL]) <;> simp only [eqL, if_neg c_23, if_neg c_49, fStop, if_true, if_false, Bool.false_eq_true, ↓reduceIte]); with_reducible rfl)), rfl⟩ d_Reader_isWordFrom_53
      exact loop19 ((z - x).toNatClampNeg) 0  H locs ls (by omega) (by simp only [fIsF, if_pos c_12]) hP hD hS (lv_sub hl [0, 1, 2, 3] rfl)
    · skip
      have c_12 : ¬ ((rWe st) - (rWs st) = z - x) := c_12
      refine lv_iconst (v := 0) hx hb d_Reader_isWordFrom_15 (by decide) ?_
      exact hret H locs st false _ _ hP hD hS ⟨(by first | (simp only [fIsF, if_neg c_12, fStop, if_true, if_false, Bool.false_eq_true, ↓reduceIte]; done) | (simp only [fIsF, if_neg c_12, fStop, if_true, if_false, Bool.false_eq_true, ↓reduceIte]; with_reducible rfl)), rfl⟩ d_Reader_isWordFrom_16
  rw [hH, hlo] at goal
  exact goal
set_option maxHeartbeats 4000000 in
set_option maxRecDepth 100000 in
theorem c_Reader_wasThere (hT : T.2 ≤ 300) (st : RS)  : hx_Mz l D (tyH cd) adK adV tF (rdW ad cd T) y_Reader_wasThere w_Reader_wasThere (rmD 3) [.ref (ad 0)] st (fWas T st) st := by
  refine hx_Mz.of (cc := b_Reader_wasThere) (maxL := 2) (by decide) rfl (Nat.le_of_ble_eq_true rfl) ?_
  intro p e s m below meth c A Q ls hI hX hA hP hD hS hl hret
  obtain ⟨hx, hb, hml, hown, hts⟩ := id hI
  have hts : ∀ w ∈ aw, w.before ([.ref (ad 0)] : List Value).toArray s = true := fun w h => hts w (List.mem_cons_of_mem _ h)
  have hown : s.vm.findClass "HeadDesk$Reader" = some m.cls := hown
  have hI : hx_In p s m ([.ref (ad 0)] : List Value).toArray c b_Reader_wasThere 2 "HeadDesk$Reader" aw := ⟨hx, hb, hml, hown, hts⟩
  have hP : va_P D vwCl (rdW ad cd T st) s.heap := hP
  obtain ⟨H, hH⟩ : ∃ H, H = s.heap := ⟨_, rfl⟩
  obtain ⟨locs, hlo⟩ : ∃ locs : List Loc, locs = [] := ⟨_, rfl⟩
  have hS : va_S A s.heap H locs := by rw [hH, hlo]; exact hS
  have hP : va_P D vwCl (rdW ad cd T st) H := by rw [hH]; exact hP
  have hl : lv_has ls 2 [(0, .ref (ad 0))] := hl
  have goal : W p l e (rmD 3) s m ([.ref (ad 0)] : List Value).toArray below meth c H locs 0 0 Q (F0 m 0 ls []) := by
    refine lv_iconst (v := 0) hx hb d_Reader_wasThere_0 (by decide) ?_
    refine lv_istore_n (lv' := [(1, .int 0), (0, .ref (ad 0))]) hx hb d_Reader_wasThere_1 rfl hl (by decide) rfl (fun ls hl => ?_)
    have loop2 : ∀ (k : Nat) (j : Nat) (H : Heap) (locs : List Loc) (ls : Array Slot), j + k = 100 → fWas T st = wasL T st k j → va_P D vwCl (rdW ad cd T st) H → va_D A (rdW ad cd T st) → va_S A s.heap H locs → lv_has ls 2 [(1, .int (nI j)), (0, .ref (ad 0))] → W p l e (rmD 3) s m ([.ref (ad 0)] : List Value).toArray below meth c H locs 0 0 Q (F0 m 2 ls []) := by
      intro k
      induction k with
      | zero =>
        intro j H locs ls hj hF hP hD hS hl
        refine lv_iload_n hx hb d_Reader_wasThere_2 rfl (lv_at hl 0 rfl) ?_
        refine lv_aload_n hx hb d_Reader_wasThere_3 rfl (lv_at hl 1 rfl) ?_
        refine va_get (D := D) (ci := 1) (v := .int (rNm st)) (C := "HeadDesk$Reader") (T := F_Reader) (N := 11) hx hb hts a_Reader hown hX.1 hP 0 rfl rfl 4 (by decide) (hts _ m_1_65) (fun _ h9 => h9) rfl d_Reader_wasThere_4 ?_
        refine lv_icmp_ge (tgt := 43) hx hb d_Reader_wasThere_7 (by decide) (fun c_7 => ?_) (fun c_7 => ?_)
        · skip
          have c_7 : (rNm st ≤ nI j) := c_7
          refine lv_iconst (v := 0) hx hb d_Reader_wasThere_43 (by decide) ?_
          exact hret H locs st false _ _ hP hD hS ⟨(by first | (rw [hF]; ((try simp only [wasL]) <;> simp only [wasL, if_pos c_7, fStop, if_true, if_false, Bool.false_eq_true, ↓reduceIte]); done) | (rw [hF]; ((try simp only [wasL]) <;> simp only [wasL, if_pos c_7, fStop, if_true, if_false, Bool.false_eq_true, ↓reduceIte]); with_reducible rfl)), rfl⟩ d_Reader_wasThere_44
        · skip
          have c_7 : ¬ (rNm st ≤ nI j) := c_7
          refine lv_iload_n hx hb d_Reader_wasThere_10 rfl (lv_at hl 0 rfl) ?_
          refine lv_bipush (v := 100) hx hb d_Reader_wasThere_11 (by decide) ?_
          refine lv_icmp_ge (tgt := 43) hx hb d_Reader_wasThere_13 (by decide) (fun c_13 => ?_) (fun c_13 => ?_)
          · skip
            have c_13 : (100 ≤ nI j) := c_13
            refine lv_iconst (v := 0) hx hb d_Reader_wasThere_43 (by decide) ?_
            exact hret H locs st false _ _ hP hD hS ⟨(by first | (rw [hF]; ((try simp only [wasL]) <;> simp only [wasL, if_neg c_7, if_pos c_13, fStop, if_true, if_false, Bool.false_eq_true, ↓reduceIte]); done) | (rw [hF]; ((try simp only [wasL]) <;> simp only [wasL, if_neg c_7, if_pos c_13, fStop, if_true, if_false, Bool.false_eq_true, ↓reduceIte]); with_reducible rfl)), rfl⟩ d_Reader_wasThere_44
          · skip
            exact absurd (nI_gyes (N := 100) rfl (by omega) (by omega)) c_13
      | succ k ih =>
        intro j H locs ls hj hF hP hD hS hl
        refine lv_iload_n hx hb d_Reader_wasThere_2 rfl (lv_at hl 0 rfl) ?_
        refine lv_aload_n hx hb d_Reader_wasThere_3 rfl (lv_at hl 1 rfl) ?_
        refine va_get (D := D) (ci := 1) (v := .int (rNm st)) (C := "HeadDesk$Reader") (T := F_Reader) (N := 11) hx hb hts a_Reader hown hX.1 hP 0 rfl rfl 4 (by decide) (hts _ m_1_65) (fun _ h9 => h9) rfl d_Reader_wasThere_4 ?_
        refine lv_icmp_ge (tgt := 43) hx hb d_Reader_wasThere_7 (by decide) (fun c_7 => ?_) (fun c_7 => ?_)
        · skip
          have c_7 : (rNm st ≤ nI j) := c_7
          refine lv_iconst (v := 0) hx hb d_Reader_wasThere_43 (by decide) ?_
          exact hret H locs st false _ _ hP hD hS ⟨(by first | (rw [hF]; ((try simp only [wasL]) <;> simp only [wasL, if_pos c_7, fStop, if_true, if_false, Bool.false_eq_true, ↓reduceIte]); done) | (rw [hF]; ((try simp only [wasL]) <;> simp only [wasL, if_pos c_7, fStop, if_true, if_false, Bool.false_eq_true, ↓reduceIte]); with_reducible rfl)), rfl⟩ d_Reader_wasThere_44
        · skip
          have c_7 : ¬ (rNm st ≤ nI j) := c_7
          refine lv_iload_n hx hb d_Reader_wasThere_10 rfl (lv_at hl 0 rfl) ?_
          refine lv_bipush (v := 100) hx hb d_Reader_wasThere_11 (by decide) ?_
          refine lv_icmp_ge (tgt := 43) hx hb d_Reader_wasThere_13 (by decide) (fun c_13 => ?_) (fun c_13 => ?_)
          · skip
            exact absurd c_13 (nI_gno (N := 100) rfl (by omega) (by omega))
          · skip
            have c_13 : ¬ (100 ≤ nI j) := c_13
            refine lv_aload_n hx hb d_Reader_wasThere_16 rfl (lv_at hl 1 rfl) ?_
            refine lv_aload_n hx hb d_Reader_wasThere_17 rfl (lv_at hl 1 rfl) ?_
            refine va_get (D := D) (ci := 1) (v := .ref (ad 3)) (C := "HeadDesk$Reader") (T := F_Reader) (N := 11) hx hb hts a_Reader hown hX.1 hP 0 rfl rfl 1 (by decide) (hts _ m_1_62) (fun _ h9 => h9) rfl d_Reader_wasThere_18 ?_
            refine lv_iload_n hx hb d_Reader_wasThere_21 rfl (lv_at hl 0 rfl) ?_
            refine va_iald hx hb hX.1 hP 3 1 rfl rfl (vp_in_nI (by omega) (by decide)) d_Reader_wasThere_22 ?_
            refine hx_top (v := (rNs st) j) (by first | rfl | (rw [nI_clamp (by omega)])) ?_
            refine lv_aload_n hx hb d_Reader_wasThere_23 rfl (lv_at hl 1 rfl) ?_
            refine va_get (D := D) (ci := 1) (v := .ref (ad 4)) (C := "HeadDesk$Reader") (T := F_Reader) (N := 11) hx hb hts a_Reader hown hX.1 hP 0 rfl rfl 2 (by decide) (hts _ m_1_63) (fun _ h9 => h9) rfl d_Reader_wasThere_24 ?_
            refine lv_iload_n hx hb d_Reader_wasThere_27 rfl (lv_at hl 0 rfl) ?_
            refine va_iald hx hb hX.1 hP 4 2 rfl rfl (vp_in_nI (by omega) (by decide)) d_Reader_wasThere_28 ?_
            refine hx_top (v := (rNe st) j) (by first | rfl | (rw [nI_clamp (by omega)])) ?_
            refine hx_Vz (wr := []) (As := [.int ((rNs st) j), .int ((rNe st) j)]) (rest := []) hI (c_Reader_isWordFrom hT st ((rNs st) j) ((rNe st) j)) (cw_V (C := "HeadDesk$Reader") 2 hts m_2_127 m_2_129 ms_14 m_1_2 m_2_130 (by decide +kernel) ⟨by decide, by decide⟩) hX hA hP hD hS [0, 1, 2, 3, 4, 5, 6, 7] [] rfl rfl (by decide) (by decide) (by decide) (va_recv hX.1 hP (ci := 1) (q0 := 0) rfl rfl) rfl hl.1 rfl (Nat.le_of_ble_eq_true rfl) d_Reader_wasThere_29 ⟨Nat.zero_le _, Nat.zero_le _⟩ (fun H locs hP hD hS => ?_)
            have hP : va_P D vwCl (rdW ad cd T st) H := hP
            have hD : va_D A (rdW ad cd T st) := hD
            refine lv_if_eq (tgt := 37) hx hb d_Reader_wasThere_32 (by decide) (fun c_32 => ?_) (fun c_32 => ?_)
            · skip
              have c_32 : (fIsF T st ((rNs st) j) ((rNe st) j)) = false := bI_0 c_32
              refine lv_iinc (v := nI (j + 1)) (lv' := [(1, .int (nI (j + 1))), (0, .ref (ad 0))]) hx hb d_Reader_wasThere_37 hl (k := 0) rfl (by rw [nI_succ]; rfl) (by decide) rfl (fun ls hl => ?_)
              refine lv_goto (tgt := 2) hx hb d_Reader_wasThere_40 (by decide) ?_
              exact ih (j + 1)  H locs ls (by omega)  (by first | (rw [hF]; ((try simp only [wasL]) <;> simp only [wasL, if_neg c_7, if_neg c_13, c_32, fStop, if_true, if_false, Bool.false_eq_true, ↓reduceIte]); done) | (rw [hF]; ((try simp only [wasL]) <;> simp only [wasL, if_neg c_7, if_neg c_13, c_32, fStop, if_true, if_false, Bool.false_eq_true, ↓reduceIte]); with_reducible rfl)) hP hD hS (lv_sub hl [0, 1] rfl)
            · skip
              have c_32 : (fIsF T st ((rNs st) j) ((rNe st) j)) = true := bI_1 c_32
              refine lv_iconst (v := 1) hx hb d_Reader_wasThere_35 (by decide) ?_
              exact hret H locs st true _ _ hP hD hS ⟨(by first | (rw [hF]; ((try simp only [wasL]) <;> simp only [wasL, if_neg c_7, if_neg c_13, c_32, fStop, if_true, if_false, Bool.false_eq_true, ↓reduceIte]); done) | (rw [hF]; ((try simp only [wasL]) <;> simp only [wasL, if_neg c_7, if_neg c_13, c_32, fStop, if_true, if_false, Bool.false_eq_true, ↓reduceIte]); with_reducible rfl)), rfl⟩ d_Reader_wasThere_36
    exact loop2 100 0  H locs ls (by omega) rfl hP hD hS (lv_sub hl [0, 1] rfl)
  rw [hH, hlo] at goal
  exact goal
set_option maxHeartbeats 4000000 in
set_option maxRecDepth 100000 in
theorem c_Reader_takeAll (hT : T.2 ≤ 300) (st : RS) {i : Nat} (hi : i < nJS) : hx_Mz l D (tyH cd) adK adV tF (rdW ad cd T) y_Reader_takeAll w_Reader_takeAll (rmD 5) [.ref (ad 0), .ref (adK i)] st ((fAll T (sw i) st).1) ((fAll T (sw i) st).2) := by
  refine hx_Mz.of (cc := b_Reader_takeAll) (maxL := 3) (by decide) rfl (Nat.le_of_ble_eq_true rfl) ?_
  intro p e s m below meth c A Q ls hI hX hA hP hD hS hl hret
  obtain ⟨hx, hb, hml, hown, hts⟩ := id hI
  have hts : ∀ w ∈ aw, w.before ([.ref (ad 0), .ref (adK i)] : List Value).toArray s = true := fun w h => hts w (List.mem_cons_of_mem _ h)
  have hown : s.vm.findClass "HeadDesk$Reader" = some m.cls := hown
  have hI : hx_In p s m ([.ref (ad 0), .ref (adK i)] : List Value).toArray c b_Reader_takeAll 3 "HeadDesk$Reader" aw := ⟨hx, hb, hml, hown, hts⟩
  have hP : va_P D vwCl (rdW ad cd T st) s.heap := hP
  obtain ⟨H, hH⟩ : ∃ H, H = s.heap := ⟨_, rfl⟩
  obtain ⟨locs, hlo⟩ : ∃ locs : List Loc, locs = [] := ⟨_, rfl⟩
  have hS : va_S A s.heap H locs := by rw [hH, hlo]; exact hS
  have hP : va_P D vwCl (rdW ad cd T st) H := by rw [hH]; exact hP
  have hl : lv_has ls 3 [(0, .ref (ad 0)), (1, .ref (adK i))] := hl
  have goal : W p l e (rmD 5) s m ([.ref (ad 0), .ref (adK i)] : List Value).toArray below meth c H locs 0 0 Q (F0 m 0 ls []) := by
    refine lv_iconst (v := 0) hx hb d_Reader_takeAll_0 (by decide) ?_
    refine lv_istore_n (lv' := [(2, .int 0), (0, .ref (ad 0)), (1, .ref (adK i))]) hx hb d_Reader_takeAll_1 rfl hl (by decide) rfl (fun ls hl => ?_)
    have loop2 : ∀ (k : Nat) (j : Nat) (s1 : RS) (H : Heap) (locs : List Loc) (ls : Array Slot), j + k = (sw i).length → fAll T (sw i) st = fAll T ((sw i).drop j) s1 → va_P D vwCl (rdW ad cd T s1) H → va_D A (rdW ad cd T s1) → va_S A s.heap H locs → lv_has ls 3 [(2, .int (nI j)), (0, .ref (ad 0)), (1, .ref (adK i))] → W p l e (rmD 5) s m ([.ref (ad 0), .ref (adK i)] : List Value).toArray below meth c H locs 0 0 Q (F0 m 2 ls []) := by
      intro k
      induction k with
      | zero =>
        intro j s1 H locs ls hj hF hP hD hS hl
        have hlen := sw_len hi
        have ez : (sw i).drop j = [] := sw_nil (by omega)
        refine lv_iload_n hx hb d_Reader_takeAll_2 rfl (lv_at hl 0 rfl) ?_
        refine lv_aload_n hx hb d_Reader_takeAll_3 rfl (lv_at hl 2 rfl) ?_
        refine hx_Vi (wr := [(ad 0, .inr (1, [.ref (ad 1), .ref (ad 3), .ref (ad 4), .ref (ad 5), .int (rNm s1), .int (rKd s1), .int (rPl s1), .int (rSk s1), .int (rNb s1), .int (rWs s1), .int (rWe s1)])), (ad 1, .inr (2, [.ref (ad 2), .int (T.2)])), (ad 2, .inl (cd 0, 300, .inl T.1)), (ad 3, .inl (cd 1, 100, .inl (rNs s1))), (ad 4, .inl (cd 2, 100, .inl (rNe s1))), (ad 5, .inr (0, [.ref (ad 6), .ref (ad 7)])), (ad 6, .inl (cd 3, 18, .inl (rVs s1))), (ad 7, .inl (cd 4, 8, .inl (rVr s1)))]) (As := []) (rest := [.int (nI j)]) hI (c_String_length hi) (cw_V (C := "java/lang/String") 0 hts m_2_31 m_2_32 m_2_33 m_1_11 m_2_34 (by decide +kernel) ⟨by decide, by decide⟩) hX hA hP hD hS [] [0, 1, 2, 3, 4, 5, 6, 7] rfl rfl (by decide) (by decide) (by decide) (va_Orecv (hX.2.1 _ hi).1 hS) rfl hl.1 rfl (Nat.le_of_ble_eq_true rfl) d_Reader_takeAll_4 ⟨Nat.zero_le _, Nat.zero_le _⟩ (fun H locs hP hD hS => ?_)
        have hP : va_P D vwCl (rdW ad cd T s1) H := hP.sub [0, 1, 2, 3, 4, 5, 6, 7] rfl
        have hD : va_D A (rdW ad cd T s1) := hD.sub [0, 1, 2, 3, 4, 5, 6, 7] (by decide) rfl
        refine lv_icmp_ge (tgt := 47) hx hb d_Reader_takeAll_7 (by decide) (fun c_7 => ?_) (fun c_7 => ?_)
        · skip
          have c_7 : (nI (sw i).length ≤ nI j) := c_7
          refine lv_iconst (v := 1) hx hb d_Reader_takeAll_47 (by decide) ?_
          exact hret H locs s1 true _ _ hP hD hS (pr2 (by first | (rw [hF]; ((try simp only [ez]) <;> simp only [ez, fAll, if_pos c_7, fStop, if_true, if_false, Bool.false_eq_true, ↓reduceIte]); done) | (rw [hF]; ((try simp only [ez]) <;> simp only [ez, fAll, if_pos c_7, fStop, if_true, if_false, Bool.false_eq_true, ↓reduceIte]); with_reducible rfl))) d_Reader_takeAll_48
        · skip
          exact absurd (nI_gyes (N := (sw i).length) rfl (by omega) (by omega)) c_7
      | succ k ih =>
        intro j s1 H locs ls hj hF hP hD hS hl
        have hlen := sw_len hi
        have ez : (sw i).drop j = (sw i).getD j 0 :: (sw i).drop (j + 1) := sw_cons (by omega)
        refine lv_iload_n hx hb d_Reader_takeAll_2 rfl (lv_at hl 0 rfl) ?_
        refine lv_aload_n hx hb d_Reader_takeAll_3 rfl (lv_at hl 2 rfl) ?_
        refine hx_Vi (wr := [(ad 0, .inr (1, [.ref (ad 1), .ref (ad 3), .ref (ad 4), .ref (ad 5), .int (rNm s1), .int (rKd s1), .int (rPl s1), .int (rSk s1), .int (rNb s1), .int (rWs s1), .int (rWe s1)])), (ad 1, .inr (2, [.ref (ad 2), .int (T.2)])), (ad 2, .inl (cd 0, 300, .inl T.1)), (ad 3, .inl (cd 1, 100, .inl (rNs s1))), (ad 4, .inl (cd 2, 100, .inl (rNe s1))), (ad 5, .inr (0, [.ref (ad 6), .ref (ad 7)])), (ad 6, .inl (cd 3, 18, .inl (rVs s1))), (ad 7, .inl (cd 4, 8, .inl (rVr s1)))]) (As := []) (rest := [.int (nI j)]) hI (c_String_length hi) (cw_V (C := "java/lang/String") 0 hts m_2_31 m_2_32 m_2_33 m_1_11 m_2_34 (by decide +kernel) ⟨by decide, by decide⟩) hX hA hP hD hS [] [0, 1, 2, 3, 4, 5, 6, 7] rfl rfl (by decide) (by decide) (by decide) (va_Orecv (hX.2.1 _ hi).1 hS) rfl hl.1 rfl (Nat.le_of_ble_eq_true rfl) d_Reader_takeAll_4 ⟨Nat.zero_le _, Nat.zero_le _⟩ (fun H locs hP hD hS => ?_)
        have hP : va_P D vwCl (rdW ad cd T s1) H := hP.sub [0, 1, 2, 3, 4, 5, 6, 7] rfl
        have hD : va_D A (rdW ad cd T s1) := hD.sub [0, 1, 2, 3, 4, 5, 6, 7] (by decide) rfl
        refine lv_icmp_ge (tgt := 47) hx hb d_Reader_takeAll_7 (by decide) (fun c_7 => ?_) (fun c_7 => ?_)
        · skip
          exact absurd c_7 (nI_gno (N := (sw i).length) rfl (by omega) (by omega))
        · skip
          have c_7 : ¬ (nI (sw i).length ≤ nI j) := c_7
          refine lv_aload_n hx hb d_Reader_takeAll_10 rfl (lv_at hl 1 rfl) ?_
          refine hx_Vi (wr := []) (As := []) (rest := []) hI (c_Reader_mark hT s1 ) (cw_V (C := "HeadDesk$Reader") 0 hts m_2_41 m_2_43 ms_5 m_1_2 m_2_44 (by decide +kernel) ⟨by decide, by decide⟩) hX hA hP hD hS [0, 1, 2, 3, 4, 5, 6, 7] [] rfl rfl (by decide) (by decide) (by decide) (va_recv hX.1 hP (ci := 1) (q0 := 0) rfl rfl) rfl hl.1 rfl (Nat.le_of_ble_eq_true rfl) d_Reader_takeAll_11 ⟨Nat.zero_le _, Nat.zero_le _⟩ (fun H locs hP hD hS => ?_)
          have hP : va_P D vwCl (rdW ad cd T s1) H := hP
          have hD : va_D A (rdW ad cd T s1) := hD
          refine lv_aload_n hx hb d_Reader_takeAll_14 rfl (lv_at hl 2 rfl) ?_
          refine lv_iload_n hx hb d_Reader_takeAll_15 rfl (lv_at hl 0 rfl) ?_
          refine hx_Vi (wr := [(ad 0, .inr (1, [.ref (ad 1), .ref (ad 3), .ref (ad 4), .ref (ad 5), .int (rNm s1), .int (rKd s1), .int (rPl s1), .int (rSk s1), .int (rNb s1), .int (rWs s1), .int (rWe s1)])), (ad 1, .inr (2, [.ref (ad 2), .int (T.2)])), (ad 2, .inl (cd 0, 300, .inl T.1)), (ad 3, .inl (cd 1, 100, .inl (rNs s1))), (ad 4, .inl (cd 2, 100, .inl (rNe s1))), (ad 5, .inr (0, [.ref (ad 6), .ref (ad 7)])), (ad 6, .inl (cd 3, 18, .inl (rVs s1))), (ad 7, .inl (cd 4, 8, .inl (rVr s1)))]) (As := [.int (nI j)]) (rest := [.int (fMark T s1)]) hI (c_String_charAt hi (j := j) (by omega)) (cw_V (C := "java/lang/String") 1 hts m_2_49 m_2_50 m_2_51 m_1_11 m_2_52 (by decide +kernel) ⟨by decide, by decide⟩) hX hA hP hD hS [] [0, 1, 2, 3, 4, 5, 6, 7] rfl rfl (by decide) (by decide) (by decide) (va_Orecv (hX.2.1 _ hi).1 hS) rfl hl.1 rfl (Nat.le_of_ble_eq_true rfl) d_Reader_takeAll_16 ⟨Nat.zero_le _, Nat.zero_le _⟩ (fun H locs hP hD hS => ?_)
          have hP : va_P D vwCl (rdW ad cd T s1) H := hP.sub [0, 1, 2, 3, 4, 5, 6, 7] rfl
          have hD : va_D A (rdW ad cd T s1) := hD.sub [0, 1, 2, 3, 4, 5, 6, 7] (by decide) rfl
          refine lv_icmp_eq (tgt := 31) hx hb d_Reader_takeAll_19 (by decide) (fun c_19 => ?_) (fun c_19 => ?_)
          · skip
            have c_19 : (fMark T s1 = (sw i).getD j 0) := c_19
            refine lv_aload_n hx hb d_Reader_takeAll_31 rfl (lv_at hl 1 rfl) ?_
            refine lv_dup hx hb d_Reader_takeAll_32 rfl ?_
            refine va_get (D := D) (ci := 1) (v := .int (rPl s1)) (C := "HeadDesk$Reader") (T := F_Reader) (N := 11) hx hb hts a_Reader hown hX.1 hP 0 rfl rfl 6 (by decide) (hts _ m_1_67) (fun _ h9 => h9) rfl d_Reader_takeAll_33 ?_
            refine lv_iconst (v := 1) hx hb d_Reader_takeAll_36 (by decide) ?_
            refine lv_iadd hx hb d_Reader_takeAll_37 ?_
            refine va_put (D := D) (ci := 1) (v := .int ((rPl s1) + 1)) (ty := .int) (C := "HeadDesk$Reader") (T := F_Reader) (N := 11) hx hb hts a_Reader t_Reader k_Reader n_Reader hown hX.1 hP hD hS 0 rfl rfl 6 (by decide) (hts _ m_1_67) (fun _ h9 => h9) rfl (by decide +kernel) rfl rfl (Nat.le_of_ble_eq_true rfl) d_Reader_takeAll_38 (fun H locs hP hD hS => ?_)
            have hP : va_P D vwCl (rdW ad cd T (sPl s1 ((rPl s1) + 1))) H := hP
            have hD : va_D A (rdW ad cd T (sPl s1 ((rPl s1) + 1))) := hD
            refine lv_iinc (v := nI (j + 1)) (lv' := [(2, .int (nI (j + 1))), (0, .ref (ad 0)), (1, .ref (adK i))]) hx hb d_Reader_takeAll_41 hl (k := 0) rfl (by rw [nI_succ]; rfl) (by decide) rfl (fun ls hl => ?_)
            refine lv_goto (tgt := 2) hx hb d_Reader_takeAll_44 (by decide) ?_
            exact ih (j + 1) (sPl s1 ((rPl s1) + 1)) H locs ls (by omega)  (by first | (rw [hF]; ((try simp only [ez]) <;> simp only [ez, fAll, if_neg c_7, if_pos c_19, fStop, if_true, if_false, Bool.false_eq_true, ↓reduceIte]); done) | (rw [hF]; ((try simp only [ez]) <;> simp only [ez, fAll, if_neg c_7, if_pos c_19, fStop, if_true, if_false, Bool.false_eq_true, ↓reduceIte]); with_reducible rfl)) hP hD hS (lv_sub hl [0, 1, 2] rfl)
          · skip
            have c_19 : ¬ (fMark T s1 = (sw i).getD j 0) := c_19
            refine lv_aload_n hx hb d_Reader_takeAll_22 rfl (lv_at hl 1 rfl) ?_
            refine lv_aload_n hx hb d_Reader_takeAll_23 rfl (lv_at hl 1 rfl) ?_
            refine va_get (D := D) (ci := 1) (v := .int (rPl s1)) (C := "HeadDesk$Reader") (T := F_Reader) (N := 11) hx hb hts a_Reader hown hX.1 hP 0 rfl rfl 6 (by decide) (hts _ m_1_67) (fun _ h9 => h9) rfl d_Reader_takeAll_24 ?_
            refine hx_Vz (wr := []) (As := [.int (rPl s1)]) (rest := []) hI (c_Reader_stop hT s1 (rPl s1)) (cw_V (C := "HeadDesk$Reader") 1 hts m_2_87 m_2_89 ms_6 m_1_2 m_2_90 (by decide +kernel) ⟨by decide, by decide⟩) hX hA hP hD hS [0, 1, 2, 3, 4, 5, 6, 7] [] rfl rfl (by decide) (by decide) (by decide) (va_recv hX.1 hP (ci := 1) (q0 := 0) rfl rfl) rfl hl.1 rfl (Nat.le_of_ble_eq_true rfl) d_Reader_takeAll_27 ⟨Nat.zero_le _, Nat.zero_le _⟩ (fun H locs hP hD hS => ?_)
            obtain ⟨s_27, e_27⟩ : ∃ z : RS, z = sSk s1 (rPl s1) := ⟨_, rfl⟩
            have hP : va_P D vwCl (rdW ad cd T s_27) H := by rw [e_27]; exact hP
            have hD : va_D A (rdW ad cd T s_27) := by rw [e_27]; exact hD
            exact hret H locs s_27 false _ _ hP hD hS (pr2 (by first | (rw [hF]; ((try simp only [ez]) <;> simp only [ez, fAll, if_neg c_7, if_neg c_19, ← e_27, fStop, if_true, if_false, Bool.false_eq_true, ↓reduceIte]); done) | (rw [hF]; ((try simp only [ez]) <;> simp only [ez, fAll, if_neg c_7, if_neg c_19, ← e_27, fStop, if_true, if_false, Bool.false_eq_true, ↓reduceIte]); with_reducible rfl) | (rw [hF]; ((try simp only [ez]) <;> simp only [ez, fAll, if_neg c_7, if_neg c_19, ← e_27, fStop, if_true, if_false, Bool.false_eq_true, ↓reduceIte]); rw [e_27]))) d_Reader_takeAll_30
    exact loop2 ((sw i).length) 0 st H locs ls (by omega) rfl hP hD hS (lv_sub hl [0, 1, 2] rfl)
  rw [hH, hlo] at goal
  exact goal
set_option maxHeartbeats 4000000 in
set_option maxRecDepth 100000 in
theorem c_Reader_isWord (hT : T.2 ≤ 300) (st : RS) {i : Nat} (hi : i < nJS) : hx_Mz l D (tyH cd) adK adV tF (rdW ad cd T) y_Reader_isWord w_Reader_isWord (rmD 5) [.ref (ad 0), .ref (adK i)] st (fIsW T st (sw i)) st := by
  refine hx_Mz.of (cc := b_Reader_isWord) (maxL := 3) (by decide) rfl (Nat.le_of_ble_eq_true rfl) ?_
  intro p e s m below meth c A Q ls hI hX hA hP hD hS hl hret
  obtain ⟨hx, hb, hml, hown, hts⟩ := id hI
  have hts : ∀ w ∈ aw, w.before ([.ref (ad 0), .ref (adK i)] : List Value).toArray s = true := fun w h => hts w (List.mem_cons_of_mem _ h)
  have hown : s.vm.findClass "HeadDesk$Reader" = some m.cls := hown
  have hI : hx_In p s m ([.ref (ad 0), .ref (adK i)] : List Value).toArray c b_Reader_isWord 3 "HeadDesk$Reader" aw := ⟨hx, hb, hml, hown, hts⟩
  have hP : va_P D vwCl (rdW ad cd T st) s.heap := hP
  obtain ⟨H, hH⟩ : ∃ H, H = s.heap := ⟨_, rfl⟩
  obtain ⟨locs, hlo⟩ : ∃ locs : List Loc, locs = [] := ⟨_, rfl⟩
  have hS : va_S A s.heap H locs := by rw [hH, hlo]; exact hS
  have hP : va_P D vwCl (rdW ad cd T st) H := by rw [hH]; exact hP
  have hl : lv_has ls 3 [(0, .ref (ad 0)), (1, .ref (adK i))] := hl
  have goal : W p l e (rmD 5) s m ([.ref (ad 0), .ref (adK i)] : List Value).toArray below meth c H locs 0 0 Q (F0 m 0 ls []) := by
    refine lv_aload_n hx hb d_Reader_isWord_0 rfl (lv_at hl 0 rfl) ?_
    refine va_get (D := D) (ci := 1) (v := .int (rWe st)) (C := "HeadDesk$Reader") (T := F_Reader) (N := 11) hx hb hts a_Reader hown hX.1 hP 0 rfl rfl 10 (by decide) (hts _ m_1_71) (fun _ h9 => h9) rfl d_Reader_isWord_1 ?_
    refine lv_aload_n hx hb d_Reader_isWord_4 rfl (lv_at hl 0 rfl) ?_
    refine va_get (D := D) (ci := 1) (v := .int (rWs st)) (C := "HeadDesk$Reader") (T := F_Reader) (N := 11) hx hb hts a_Reader hown hX.1 hP 0 rfl rfl 9 (by decide) (hts _ m_1_70) (fun _ h9 => h9) rfl d_Reader_isWord_5 ?_
    refine lv_isub hx hb d_Reader_isWord_8 ?_
    refine lv_aload_n hx hb d_Reader_isWord_9 rfl (lv_at hl 1 rfl) ?_
    refine hx_Vi (wr := [(ad 0, .inr (1, [.ref (ad 1), .ref (ad 3), .ref (ad 4), .ref (ad 5), .int (rNm st), .int (rKd st), .int (rPl st), .int (rSk st), .int (rNb st), .int (rWs st), .int (rWe st)])), (ad 1, .inr (2, [.ref (ad 2), .int (T.2)])), (ad 2, .inl (cd 0, 300, .inl T.1)), (ad 3, .inl (cd 1, 100, .inl (rNs st))), (ad 4, .inl (cd 2, 100, .inl (rNe st))), (ad 5, .inr (0, [.ref (ad 6), .ref (ad 7)])), (ad 6, .inl (cd 3, 18, .inl (rVs st))), (ad 7, .inl (cd 4, 8, .inl (rVr st)))]) (As := []) (rest := [.int ((rWe st) - (rWs st))]) hI (c_String_length hi) (cw_V (C := "java/lang/String") 0 hts m_2_31 m_2_32 m_2_33 m_1_11 m_2_34 (by decide +kernel) ⟨by decide, by decide⟩) hX hA hP hD hS [] [0, 1, 2, 3, 4, 5, 6, 7] rfl rfl (by decide) (by decide) (by decide) (va_Orecv (hX.2.1 _ hi).1 hS) rfl hl.1 rfl (Nat.le_of_ble_eq_true rfl) d_Reader_isWord_10 ⟨Nat.zero_le _, Nat.zero_le _⟩ (fun H locs hP hD hS => ?_)
    have hP : va_P D vwCl (rdW ad cd T st) H := hP.sub [0, 1, 2, 3, 4, 5, 6, 7] rfl
    have hD : va_D A (rdW ad cd T st) := hD.sub [0, 1, 2, 3, 4, 5, 6, 7] (by decide) rfl
    refine lv_icmp_eq (tgt := 18) hx hb d_Reader_isWord_13 (by decide) (fun c_13 => ?_) (fun c_13 => ?_)
    · skip
      have c_13 : ((rWe st) - (rWs st) = nI (sw i).length) := c_13
      refine lv_iconst (v := 0) hx hb d_Reader_isWord_18 (by decide) ?_
      refine lv_istore_n (lv' := [(2, .int 0), (0, .ref (ad 0)), (1, .ref (adK i))]) hx hb d_Reader_isWord_19 rfl hl (by decide) rfl (fun ls hl => ?_)
      have loop20 : ∀ (k : Nat) (j : Nat) (H : Heap) (locs : List Loc) (ls : Array Slot), j + k = (sw i).length → fIsW T st (sw i) = wEq T (rWs st) ((sw i).drop j) j → va_P D vwCl (rdW ad cd T st) H → va_D A (rdW ad cd T st) → va_S A s.heap H locs → lv_has ls 3 [(2, .int (nI j)), (0, .ref (ad 0)), (1, .ref (adK i))] → W p l e (rmD 5) s m ([.ref (ad 0), .ref (adK i)] : List Value).toArray below meth c H locs 0 0 Q (F0 m 20 ls []) := by
        intro k
        induction k with
        | zero =>
          intro j H locs ls hj hF hP hD hS hl
          have hlen := sw_len hi
          have ez : (sw i).drop j = [] := sw_nil (by omega)
          refine lv_iload_n hx hb d_Reader_isWord_20 rfl (lv_at hl 0 rfl) ?_
          refine lv_aload_n hx hb d_Reader_isWord_21 rfl (lv_at hl 2 rfl) ?_
          refine hx_Vi (wr := [(ad 0, .inr (1, [.ref (ad 1), .ref (ad 3), .ref (ad 4), .ref (ad 5), .int (rNm st), .int (rKd st), .int (rPl st), .int (rSk st), .int (rNb st), .int (rWs st), .int (rWe st)])), (ad 1, .inr (2, [.ref (ad 2), .int (T.2)])), (ad 2, .inl (cd 0, 300, .inl T.1)), (ad 3, .inl (cd 1, 100, .inl (rNs st))), (ad 4, .inl (cd 2, 100, .inl (rNe st))), (ad 5, .inr (0, [.ref (ad 6), .ref (ad 7)])), (ad 6, .inl (cd 3, 18, .inl (rVs st))), (ad 7, .inl (cd 4, 8, .inl (rVr st)))]) (As := []) (rest := [.int (nI j)]) hI (c_String_length hi) (cw_V (C := "java/lang/String") 0 hts m_2_31 m_2_32 m_2_33 m_1_11 m_2_34 (by decide +kernel) ⟨by decide, by decide⟩) hX hA hP hD hS [] [0, 1, 2, 3, 4, 5, 6, 7] rfl rfl (by decide) (by decide) (by decide) (va_Orecv (hX.2.1 _ hi).1 hS) rfl hl.1 rfl (Nat.le_of_ble_eq_true rfl) d_Reader_isWord_22 ⟨Nat.zero_le _, Nat.zero_le _⟩ (fun H locs hP hD hS => ?_)
          have hP : va_P D vwCl (rdW ad cd T st) H := hP.sub [0, 1, 2, 3, 4, 5, 6, 7] rfl
          have hD : va_D A (rdW ad cd T st) := hD.sub [0, 1, 2, 3, 4, 5, 6, 7] (by decide) rfl
          refine lv_icmp_ge (tgt := 57) hx hb d_Reader_isWord_25 (by decide) (fun c_25 => ?_) (fun c_25 => ?_)
          · skip
            have c_25 : (nI (sw i).length ≤ nI j) := c_25
            refine lv_iconst (v := 1) hx hb d_Reader_isWord_57 (by decide) ?_
            exact hret H locs st true _ _ hP hD hS ⟨(by first | (rw [hF]; ((try simp only [ez]) <;> simp only [ez, wEq, if_pos c_25, fStop, if_true, if_false, Bool.false_eq_true, ↓reduceIte]); done) | (rw [hF]; ((try simp only [ez]) <;> simp only [ez, wEq, if_pos c_25, fStop, if_true, if_false, Bool.false_eq_true, ↓reduceIte]); with_reducible rfl)), rfl⟩ d_Reader_isWord_58
          · skip
            exact absurd (nI_gyes (N := (sw i).length) rfl (by omega) (by omega)) c_25
        | succ k ih =>
          intro j H locs ls hj hF hP hD hS hl
          have hlen := sw_len hi
          have ez : (sw i).drop j = (sw i).getD j 0 :: (sw i).drop (j + 1) := sw_cons (by omega)
          refine lv_iload_n hx hb d_Reader_isWord_20 rfl (lv_at hl 0 rfl) ?_
          refine lv_aload_n hx hb d_Reader_isWord_21 rfl (lv_at hl 2 rfl) ?_
          refine hx_Vi (wr := [(ad 0, .inr (1, [.ref (ad 1), .ref (ad 3), .ref (ad 4), .ref (ad 5), .int (rNm st), .int (rKd st), .int (rPl st), .int (rSk st), .int (rNb st), .int (rWs st), .int (rWe st)])), (ad 1, .inr (2, [.ref (ad 2), .int (T.2)])), (ad 2, .inl (cd 0, 300, .inl T.1)), (ad 3, .inl (cd 1, 100, .inl (rNs st))), (ad 4, .inl (cd 2, 100, .inl (rNe st))), (ad 5, .inr (0, [.ref (ad 6), .ref (ad 7)])), (ad 6, .inl (cd 3, 18, .inl (rVs st))), (ad 7, .inl (cd 4, 8, .inl (rVr st)))]) (As := []) (rest := [.int (nI j)]) hI (c_String_length hi) (cw_V (C := "java/lang/String") 0 hts m_2_31 m_2_32 m_2_33 m_1_11 m_2_34 (by decide +kernel) ⟨by decide, by decide⟩) hX hA hP hD hS [] [0, 1, 2, 3, 4, 5, 6, 7] rfl rfl (by decide) (by decide) (by decide) (va_Orecv (hX.2.1 _ hi).1 hS) rfl hl.1 rfl (Nat.le_of_ble_eq_true rfl) d_Reader_isWord_22 ⟨Nat.zero_le _, Nat.zero_le _⟩ (fun H locs hP hD hS => ?_)
          have hP : va_P D vwCl (rdW ad cd T st) H := hP.sub [0, 1, 2, 3, 4, 5, 6, 7] rfl
          have hD : va_D A (rdW ad cd T st) := hD.sub [0, 1, 2, 3, 4, 5, 6, 7] (by decide) rfl
          refine lv_icmp_ge (tgt := 57) hx hb d_Reader_isWord_25 (by decide) (fun c_25 => ?_) (fun c_25 => ?_)
          · skip
            exact absurd c_25 (nI_gno (N := (sw i).length) rfl (by omega) (by omega))
          · skip
            have c_25 : ¬ (nI (sw i).length ≤ nI j) := c_25
            refine lv_aload_n hx hb d_Reader_isWord_28 rfl (lv_at hl 1 rfl) ?_
            refine va_get (D := D) (ci := 1) (v := .ref (ad 1)) (C := "HeadDesk$Reader") (T := F_Reader) (N := 11) hx hb hts a_Reader hown hX.1 hP 0 rfl rfl 0 (by decide) (hts _ m_1_60) (fun _ h9 => h9) rfl d_Reader_isWord_29 ?_
            refine lv_aload_n hx hb d_Reader_isWord_32 rfl (lv_at hl 1 rfl) ?_
            refine va_get (D := D) (ci := 1) (v := .int (rWs st)) (C := "HeadDesk$Reader") (T := F_Reader) (N := 11) hx hb hts a_Reader hown hX.1 hP 0 rfl rfl 9 (by decide) (hts _ m_1_70) (fun _ h9 => h9) rfl d_Reader_isWord_33 ?_
            refine lv_iload_n hx hb d_Reader_isWord_36 rfl (lv_at hl 0 rfl) ?_
            refine lv_iadd hx hb d_Reader_isWord_37 ?_
            refine hx_Vi (wr := [(ad 0, .inr (1, [.ref (ad 1), .ref (ad 3), .ref (ad 4), .ref (ad 5), .int (rNm st), .int (rKd st), .int (rPl st), .int (rSk st), .int (rNb st), .int (rWs st), .int (rWe st)])), (ad 3, .inl (cd 1, 100, .inl (rNs st))), (ad 4, .inl (cd 2, 100, .inl (rNe st))), (ad 5, .inr (0, [.ref (ad 6), .ref (ad 7)])), (ad 6, .inl (cd 3, 18, .inl (rVs st))), (ad 7, .inl (cd 4, 8, .inl (rVr st)))]) (As := [.int ((rWs st) + (nI j))]) (rest := []) hI (c_Tape_markAt hT ((rWs st) + (nI j))) (cw_V (C := "HeadDesk$Tape") 1 hts m_2_45 m_2_46 m_2_47 m_1_3 m_2_48 (by decide +kernel) ⟨by decide, by decide⟩) hX hA hP hD hS [1, 2] [0, 3, 4, 5, 6, 7] rfl rfl (by decide) (by decide) (by decide) (va_recv hX.1 hP (ci := 2) (q0 := 1) rfl rfl) rfl hl.1 rfl (Nat.le_of_ble_eq_true rfl) d_Reader_isWord_38 ⟨Nat.zero_le _, Nat.zero_le _⟩ (fun H locs hP hD hS => ?_)
            have hP : va_P D vwCl (rdW ad cd T st) H := hP.sub [0, 6, 7, 1, 2, 3, 4, 5] rfl
            have hD : va_D A (rdW ad cd T st) := hD.sub [0, 6, 7, 1, 2, 3, 4, 5] (by decide) rfl
            refine lv_aload_n hx hb d_Reader_isWord_41 rfl (lv_at hl 2 rfl) ?_
            refine lv_iload_n hx hb d_Reader_isWord_42 rfl (lv_at hl 0 rfl) ?_
            refine hx_Vi (wr := [(ad 0, .inr (1, [.ref (ad 1), .ref (ad 3), .ref (ad 4), .ref (ad 5), .int (rNm st), .int (rKd st), .int (rPl st), .int (rSk st), .int (rNb st), .int (rWs st), .int (rWe st)])), (ad 1, .inr (2, [.ref (ad 2), .int (T.2)])), (ad 2, .inl (cd 0, 300, .inl T.1)), (ad 3, .inl (cd 1, 100, .inl (rNs st))), (ad 4, .inl (cd 2, 100, .inl (rNe st))), (ad 5, .inr (0, [.ref (ad 6), .ref (ad 7)])), (ad 6, .inl (cd 3, 18, .inl (rVs st))), (ad 7, .inl (cd 4, 8, .inl (rVr st)))]) (As := [.int (nI j)]) (rest := [.int (mAt T ((rWs st) + (nI j)))]) hI (c_String_charAt hi (j := j) (by omega)) (cw_V (C := "java/lang/String") 1 hts m_2_49 m_2_50 m_2_51 m_1_11 m_2_52 (by decide +kernel) ⟨by decide, by decide⟩) hX hA hP hD hS [] [0, 1, 2, 3, 4, 5, 6, 7] rfl rfl (by decide) (by decide) (by decide) (va_Orecv (hX.2.1 _ hi).1 hS) rfl hl.1 rfl (Nat.le_of_ble_eq_true rfl) d_Reader_isWord_43 ⟨Nat.zero_le _, Nat.zero_le _⟩ (fun H locs hP hD hS => ?_)
            have hP : va_P D vwCl (rdW ad cd T st) H := hP.sub [0, 1, 2, 3, 4, 5, 6, 7] rfl
            have hD : va_D A (rdW ad cd T st) := hD.sub [0, 1, 2, 3, 4, 5, 6, 7] (by decide) rfl
            refine lv_icmp_eq (tgt := 51) hx hb d_Reader_isWord_46 (by decide) (fun c_46 => ?_) (fun c_46 => ?_)
            · skip
              have c_46 : (mAt T ((rWs st) + (nI j)) = (sw i).getD j 0) := c_46
              refine lv_iinc (v := nI (j + 1)) (lv' := [(2, .int (nI (j + 1))), (0, .ref (ad 0)), (1, .ref (adK i))]) hx hb d_Reader_isWord_51 hl (k := 0) rfl (by rw [nI_succ]; rfl) (by decide) rfl (fun ls hl => ?_)
              refine lv_goto (tgt := 20) hx hb d_Reader_isWord_54 (by decide) ?_
              exact ih (j + 1)  H locs ls (by omega)  (by first | (rw [hF]; ((try simp only [ez]) <;> simp only [ez, wEq, if_neg c_25, if_pos c_46, fStop, if_true, if_false, Bool.false_eq_true, ↓reduceIte]); done) | (rw [hF]; ((try simp only [ez]) <;> simp only [ez, wEq, if_neg c_25, if_pos c_46, fStop, if_true, if_false, Bool.false_eq_true, ↓reduceIte]); with_reducible rfl)) hP hD hS (lv_sub hl [0, 1, 2] rfl)
            · skip
              have c_46 : ¬ (mAt T ((rWs st) + (nI j)) = (sw i).getD j 0) := c_46
              refine lv_iconst (v := 0) hx hb d_Reader_isWord_49 (by decide) ?_
              exact hret H locs st false _ _ hP hD hS ⟨(by first | (rw [hF]; ((try simp only [ez]) <;> simp only [ez, wEq, if_neg c_25, if_neg c_46, fStop, if_true, if_false, Bool.false_eq_true, ↓reduceIte]); done) | (rw [hF]; ((try simp only [ez]) <;> simp only [ez, wEq, if_neg c_25, if_neg c_46, fStop, if_true, if_false, Bool.false_eq_true, ↓reduceIte]); with_reducible rfl)), rfl⟩ d_Reader_isWord_50
      exact loop20 ((sw i).length) 0  H locs ls (by omega) (by simp only [fIsW, if_pos c_13, List.drop_zero]) hP hD hS (lv_sub hl [0, 1, 2] rfl)
    · skip
      have c_13 : ¬ ((rWe st) - (rWs st) = nI (sw i).length) := c_13
      refine lv_iconst (v := 0) hx hb d_Reader_isWord_16 (by decide) ?_
      exact hret H locs st false _ _ hP hD hS ⟨(by first | (simp only [fIsW, if_neg c_13, fStop, if_true, if_false, Bool.false_eq_true, ↓reduceIte]; done) | (simp only [fIsW, if_neg c_13, fStop, if_true, if_false, Bool.false_eq_true, ↓reduceIte]; with_reducible rfl)), rfl⟩ d_Reader_isWord_17
  rw [hH, hlo] at goal
  exact goal
