variable {l : Launch} {D : va_G} {ad : Nat → Nat} {cd : Nat → ClassId} {adK adV : Nat → Nat} {tF : Nat}
set_option maxHeartbeats 4000000 in
set_option maxRecDepth 100000 in
theorem c_Desk_read (hst : l.stackTraces = false) (d : DS) (hT : (dT d).2 ≤ 300) (x : Int32) (sz : Nat) : vx_Met l y_Desk_read w_Desk_read (rmC 11 1 6) (hx_PcN D (tyH cd) adK adV tF (dkW ad cd d) [.ref (ad 8), .int x] sz) (rd_Q D ad cd d x (va_A (dkW ad cd d) sz)) (rd_X D ad cd d x (va_A (dkW ad cd d) sz)) 1 6 (va_A (dkW ad cd d) sz) := by
  refine vx_ofW (cc := b_Desk_read) (maxL := 3) (ret := some .int) (by decide) rfl ?_
  intro p e s m args below meth c s₁ B hml hex hv
  obtain ⟨rfl, hsz, hP, hX, hD0, hN⟩ := hv
  have hx := B.exec
  have hb := B.bytes
  have hr := B.returns
  have hts := atoms_spec (ws := w_Desk_read) B.pre
  have hts : ∀ w ∈ aw, w.before ([.ref (ad 8), .int x] : List Value).toArray s = true := fun w h => hts w (List.mem_cons_of_mem _ h)
  have hown : s.vm.findClass "HeadDesk" = some m.cls := findClass_of_methodNamed B.named
  have hlocks := B.notSynchronized
  subst hsz
  have hD := hD0.self (sz := s.heap.size)
  have hA : ∀ q : Nat, s.heap.size ≤ q → va_A (dkW ad cd d) s.heap.size q := fun q h => Or.inr h
  generalize hAe : va_A (dkW ad cd d) s.heap.size = A at hX hD hA ⊢
  have hI : hx_In p s m ([.ref (ad 8), .int x] : List Value).toArray c b_Desk_read 3 "HeadDesk" aw := ⟨hx, hb, hml, hown, hts⟩
  have hthr : ∀ (H : Heap) (locs : List Loc) (ls : Array Slot) (pc is sa : Nat) (text : String), vk_R "HeadDesk" is text sa s → decode b_Desk_read pc = .ok (.new 41, 3) → decode b_Desk_read (pc + 3) = .ok (.dup, 1) → decode b_Desk_read (pc + 4) = .ok (.ldc is, 2) → decode b_Desk_read (pc + 6) = .ok (.invokespecial 45, 3) → decode b_Desk_read (pc + 9) = .ok (.athrow, 1) → va_P D vwCl (dkW ad cd (fRd d x).2) H → va_D A (dkW ad cd (fRd d x).2) → va_S A s.heap H locs → ls.size = 3 → (fRd d x).1 = false → W p l e (rmC 11 1 6) s m ([.ref (ad 8), .int x] : List Value).toArray below meth c H locs 0 0 (vx_MQ below (rd_Q D ad cd d x A) (rd_X D ad cd d x A) ([.ref (ad 8), .int x] : List Value).toArray s 1 6 A) (F0 m pc ls []) := by
    intro H locs ls pc is sa text hstr d0 d3 d4 d6 d9 hP hD hS hsz hF
    refine vx_throwS (own := "HeadDesk") (cls := tIAE) (names := nIAE) hx hb hst hown (by decide +kernel) (by decide +kernel) (hts _ m_1_177) (hts _ m_1_9) hstr (vx_hat (fun w hw => hts w (iae_good w hw)) iae_bad (vx_c (va_Nw.use rfl hN.1) (vx_c (va_Nw.use rfl hN.2.1) (vx_c (va_Nw.use rfl hN.2.2.1) (vx_c (va_Nw.use rfl hN.2.2.2.1) vx_n))))) iae_ot hX.2.2.2.2.2.2.2.1 hX.2.2.2.2.2.2.2.2 hS (hsz.trans hml.symm) d0 d3 d4 d6 d9 (fun z hz => (hex z hz).elim) (by decide) (by decide) (by decide) (by decide) hlocks (fun t hvm hz hk => ⟨(fRd d x).2, ⟨hF, rfl⟩, ⟨rfl, hP.kept (fun k q hq => hk q.1 (vx_lt hP hq)), hD⟩, Nat.le_trans hS.1 hz, fun q h1 h2 => (hk q (Nat.lt_of_lt_of_le h1 hS.1)).trans (hS.2.1 q h1 h2)⟩) (fun z hz => hS.2.2 z hz) (by decide) (by decide)
  have hret : ∀ (H : Heap) (locs : List Loc) (ls : Array Slot), va_P D vwCl (dkW (adS ad) (cdS cd) (fRd d x).2) H → va_D A (dkW (adS ad) (cdS cd) (fRd d x).2) → va_S A s.heap H locs → (fRd d x).1 = true → W p l e (rmC 11 1 6) s m ([.ref (ad 8), .int x] : List Value).toArray below meth c H locs 0 0 (vx_MQ below (rd_Q D ad cd d x A) (rd_X D ad cd d x A) ([.ref (ad 8), .int x] : List Value).toArray s 1 6 A) (F0 m 89 ls [.int (dN (fRd d x).2)]) := by
    intro H locs ls hP hD hS hF
    refine vx_ret (W.widen (k := 1) (n := 6) (by decide) (by decide) ?_)
    exact W.iret (v := dN (fRd d x).2) hx hb hr (fun t ht hW => ⟨⟨dN (fRd d x).2, (fRd d x).2, rfl, ⟨hF, rfl, rfl⟩, by rw [ht]; exact hP, hD⟩, hS.F ht⟩) hS.2.2 d_Desk_read_89
  have hP : va_P D vwCl (dkW ad cd d) s.heap := hP
  have hl := lv_entry ([.ref (ad 8), .int x]) (n := 3) (Nat.le_of_ble_eq_true rfl)
  rw [lg_entry_eq]
  generalize (lg_sl ([.ref (ad 8), .int x]) ++ List.replicate (3 - (lg_sl ([.ref (ad 8), .int x])).length) Slot.unset).toArray = ls at hl ⊢
  have hl : lv_has ls 3 [(0, .ref (ad 8)), (1, .int x)] := hl
  obtain ⟨H, hH⟩ : ∃ H, H = s.heap := ⟨_, rfl⟩
  obtain ⟨locs, hlo⟩ : ∃ locs : List Loc, locs = [] := ⟨_, rfl⟩
  have hS : va_S A s.heap H locs := by rw [hH, hlo]; exact va_S.rf
  have hP : va_P D vwCl (dkW ad cd d) H := by rw [hH]; exact hP
  have goal : W p l e (rmC 11 1 6) s m ([.ref (ad 8), .int x] : List Value).toArray below meth c H locs 0 0 (vx_MQ below (rd_Q D ad cd d x A) (rd_X D ad cd d x A) ([.ref (ad 8), .int x] : List Value).toArray s 1 6 A) (F0 m 0 ls []) := by
    refine lv_iload_n hx hb d_Desk_read_0 rfl (lv_at hl 1 rfl) ?_
    refine lv_if_eq (tgt := 19) hx hb d_Desk_read_1 (by decide) (fun c_1 => ?_) (fun c_1 => ?_)
    · skip
      have c_1 : (x = 0) := c_1
      refine lv_aload_n hx hb d_Desk_read_19 rfl (lv_at hl 0 rfl) ?_
      refine va_get (D := D) (ci := 3) (v := .ref (ad 0)) (C := "HeadDesk") (T := F_Desk) (N := 5) hx hb hts a_Desk hown hX.1 hP 0 rfl rfl 0 (by decide) (hts _ m_1_97) (fun _ h9 => h9) rfl d_Desk_read_20 ?_
      refine lv_iload_n hx hb d_Desk_read_23 rfl (lv_at hl 1 rfl) ?_
      refine hx_Vz (wr := [(ad 8, .inr (3, [.ref (ad 0), .ref (ad 1), .ref (ad 9), .int (dN d), .int (dL d)])), (ad 9, .inr (0, [.ref (ad 10), .ref (ad 11)])), (ad 10, .inl (cd 5, 18, .inl ((dG d).1))), (ad 11, .inl (cd 6, 8, .inl ((dG d).2)))]) (As := [.int x]) (rest := []) hI (c_Reader_readText hT (dS d) x) (cw_V (C := "HeadDesk$Reader") 1 hts m_2_3 m_2_4 m_2_5 m_1_2 m_2_6 (by decide +kernel) ⟨by decide, by decide⟩) hX hA hP hD hS [1, 2, 3, 4, 5, 6, 7, 8] [0, 9, 10, 11] rfl rfl (by decide) (by decide) (by decide) (va_recv hX.1 hP (ci := 1) (q0 := 1) rfl rfl) rfl hl.1 rfl (Nat.le_of_ble_eq_true rfl) d_Desk_read_24 ⟨Nat.zero_le _, Nat.zero_le _⟩ (fun H locs hP hD hS => ?_)
      obtain ⟨s_24, e_24⟩ : ∃ z : DS, z = uS d (fTxt (dT d) (dS d) x).2 := ⟨_, rfl⟩
      have hP : va_P D vwCl (dkW ad cd s_24) H := by rw [e_24]; exact hP.sub [0, 4, 5, 6, 7, 8, 9, 10, 11, 1, 2, 3] rfl
      have hD : va_D A (dkW ad cd s_24) := by rw [e_24]; exact hD.sub [0, 4, 5, 6, 7, 8, 9, 10, 11, 1, 2, 3] (by decide) rfl
      refine lv_istore_n (lv' := [(2, .int (bI (fTxt (dT d) (dS d) x).1)), (0, .ref (ad 8)), (1, .int x)]) hx hb d_Desk_read_27 rfl hl (by decide) rfl (fun ls hl => ?_)
      refine lv_aload_n hx hb d_Desk_read_28 rfl (lv_at hl 1 rfl) ?_
      refine va_get (D := D) (ci := 3) (v := .ref (ad 1)) (C := "HeadDesk") (T := F_Desk) (N := 5) hx hb hts a_Desk hown hX.1 hP 0 rfl rfl 1 (by decide) (hts _ m_1_98) (fun _ h9 => h9) rfl d_Desk_read_29 ?_
      refine hx_Vv (wr := [(ad 8, .inr (3, [.ref (ad 0), .ref (ad 1), .ref (ad 9), .int (dN s_24), .int (dL s_24)])), (ad 0, .inr (1, [.ref (ad 1), .ref (ad 3), .ref (ad 4), .ref (ad 5), .int (rNm (dS s_24)), .int (rKd (dS s_24)), .int (rPl (dS s_24)), .int (rSk (dS s_24)), .int (rNb (dS s_24)), .int (rWs (dS s_24)), .int (rWe (dS s_24))])), (ad 3, .inl (cd 1, 100, .inl (rNs (dS s_24)))), (ad 4, .inl (cd 2, 100, .inl (rNe (dS s_24)))), (ad 5, .inr (0, [.ref (ad 6), .ref (ad 7)])), (ad 6, .inl (cd 3, 18, .inl (rVs (dS s_24)))), (ad 7, .inl (cd 4, 8, .inl (rVr (dS s_24)))), (ad 9, .inr (0, [.ref (ad 10), .ref (ad 11)])), (ad 10, .inl (cd 5, 18, .inl ((dG s_24).1))), (ad 11, .inl (cd 6, 8, .inl ((dG s_24).2)))]) (As := []) (rest := []) hI (c_Tape_empty (T := dT s_24)) (cw_V (C := "HeadDesk$Tape") 0 hts m_2_198 m_2_199 m_2_200 m_1_3 m_2_201 (by decide +kernel) ⟨by decide, by decide⟩) hX hA hP hD hS [2, 3] [0, 1, 4, 5, 6, 7, 8, 9, 10, 11] rfl rfl (by decide) (by decide) (by decide) (va_recv hX.1 hP (ci := 2) (q0 := 2) rfl rfl) rfl hl.1 rfl (Nat.le_of_ble_eq_true rfl) d_Desk_read_32 ⟨Nat.zero_le _, Nat.zero_le _⟩ (fun H locs hP hD hS => ?_)
      obtain ⟨s_32, e_32⟩ : ∃ z : DS, z = uT s_24 ((dT s_24).1, 0) := ⟨_, rfl⟩
      have hP : va_P D vwCl (dkW ad cd s_32) H := by rw [e_32]; exact hP.sub [0, 1, 10, 11, 2, 3, 4, 5, 6, 7, 8, 9] rfl
      have hD : va_D A (dkW ad cd s_32) := by rw [e_32]; exact hD.sub [0, 1, 10, 11, 2, 3, 4, 5, 6, 7, 8, 9] (by decide) rfl
      refine lv_aload_n hx hb d_Desk_read_35 rfl (lv_at hl 1 rfl) ?_
      refine lv_aload_n hx hb d_Desk_read_36 rfl (lv_at hl 1 rfl) ?_
      refine va_get (D := D) (ci := 3) (v := .ref (ad 0)) (C := "HeadDesk") (T := F_Desk) (N := 5) hx hb hts a_Desk hown hX.1 hP 0 rfl rfl 0 (by decide) (hts _ m_1_97) (fun _ h9 => h9) rfl d_Desk_read_37 ?_
      refine hx_Vi (wr := [(ad 8, .inr (3, [.ref (ad 0), .ref (ad 1), .ref (ad 9), .int (dN s_32), .int (dL s_32)])), (ad 9, .inr (0, [.ref (ad 10), .ref (ad 11)])), (ad 10, .inl (cd 5, 18, .inl ((dG s_32).1))), (ad 11, .inl (cd 6, 8, .inl ((dG s_32).2)))]) (As := []) (rest := [.ref (ad 8)]) hI (c_Reader_stuckAt (T := dT s_32) (by rw [e_32]; exact (by decide : (0 : Int32) ≤ 300)) (dS s_32)) (cw_V (C := "HeadDesk$Reader") 0 hts m_2_202 m_2_203 m_2_204 m_1_2 m_2_205 (by decide +kernel) ⟨by decide, by decide⟩) hX hA hP hD hS [1, 2, 3, 4, 5, 6, 7, 8] [0, 9, 10, 11] rfl rfl (by decide) (by decide) (by decide) (va_recv hX.1 hP (ci := 1) (q0 := 1) rfl rfl) rfl hl.1 rfl (Nat.le_of_ble_eq_true rfl) d_Desk_read_40 ⟨Nat.zero_le _, Nat.zero_le _⟩ (fun H locs hP hD hS => ?_)
      have hP : va_P D vwCl (dkW ad cd s_32) H := hP.sub [0, 4, 5, 6, 7, 8, 9, 10, 11, 1, 2, 3] rfl
      have hD : va_D A (dkW ad cd s_32) := hD.sub [0, 4, 5, 6, 7, 8, 9, 10, 11, 1, 2, 3] (by decide) rfl
      refine va_put (D := D) (ci := 3) (v := .int (rSk (dS s_32))) (ty := .int) (C := "HeadDesk") (T := F_Desk) (N := 5) hx hb hts a_Desk t_Desk k_Desk n_Desk hown hX.1 hP hD hS 0 rfl rfl 4 (by decide) (hts _ m_1_101) (fun _ h9 => h9) rfl (by decide +kernel) rfl rfl (Nat.le_of_ble_eq_true rfl) d_Desk_read_43 (fun H locs hP hD hS => ?_)
      have hP : va_P D vwCl (dkW ad cd (uL s_32 (rSk (dS s_32)))) H := hP
      have hD : va_D A (dkW ad cd (uL s_32 (rSk (dS s_32)))) := hD
      refine lv_iload_n hx hb d_Desk_read_46 rfl (lv_at hl 0 rfl) ?_
      refine lv_if_ne (tgt := 60) hx hb d_Desk_read_47 (by decide) (fun c_47 => ?_) (fun c_47 => ?_)
      · skip
        have c_47 : ((fTxt (dT d) (dS d) x).1) = true := bI_1 c_47
        have hF : fRd d x = (true, fRdT (fRdC d x)) := by simp only [fRd, if_pos c_1, fRdB, c_47, ↓reduceIte]
        have e9 : uL s_32 (rSk (dS s_32)) = fRdC d x := by rw [e_32, e_24]; rfl
        rw [e9] at hP hD
        obtain ⟨d1, e_d1⟩ : ∃ z : DS, z = fRdC d x := ⟨_, rfl⟩
        rw [← e_d1] at hP hD hF
        have hP : va_P D vwCl [(ad 8, .inr (3, [.ref (ad 0), .ref (ad 1), .ref (ad 9), .int (dN d1), .int (dL d1)])), (ad 0, .inr (1, [.ref (ad 1), .ref (ad 3), .ref (ad 4), .ref (ad 5), .int (rNm (dS d1)), .int (rKd (dS d1)), .int (rPl (dS d1)), .int (rSk (dS d1)), .int (rNb (dS d1)), .int (rWs (dS d1)), .int (rWe (dS d1))])), (ad 1, .inr (2, [.ref (ad 2), .int ((dT d1).2)])), (ad 2, .inl (cd 0, 300, .inl ((dT d1).1))), (ad 3, .inl (cd 1, 100, .inl (rNs (dS d1)))), (ad 4, .inl (cd 2, 100, .inl (rNe (dS d1)))), (ad 5, .inr (0, [.ref (ad 6), .ref (ad 7)])), (ad 6, .inl (cd 3, 18, .inl (rVs (dS d1)))), (ad 7, .inl (cd 4, 8, .inl (rVr (dS d1)))), (ad 9, .inr (0, [.ref (ad 10), .ref (ad 11)])), (ad 10, .inl (cd 5, 18, .inl ((dG d1).1))), (ad 11, .inl (cd 6, 8, .inl ((dG d1).2)))] H := hP
        have hD : va_D A [(ad 8, .inr (3, [.ref (ad 0), .ref (ad 1), .ref (ad 9), .int (dN d1), .int (dL d1)])), (ad 0, .inr (1, [.ref (ad 1), .ref (ad 3), .ref (ad 4), .ref (ad 5), .int (rNm (dS d1)), .int (rKd (dS d1)), .int (rPl (dS d1)), .int (rSk (dS d1)), .int (rNb (dS d1)), .int (rWs (dS d1)), .int (rWe (dS d1))])), (ad 1, .inr (2, [.ref (ad 2), .int ((dT d1).2)])), (ad 2, .inl (cd 0, 300, .inl ((dT d1).1))), (ad 3, .inl (cd 1, 100, .inl (rNs (dS d1)))), (ad 4, .inl (cd 2, 100, .inl (rNe (dS d1)))), (ad 5, .inr (0, [.ref (ad 6), .ref (ad 7)])), (ad 6, .inl (cd 3, 18, .inl (rVs (dS d1)))), (ad 7, .inl (cd 4, 8, .inl (rVr (dS d1)))), (ad 9, .inr (0, [.ref (ad 10), .ref (ad 11)])), (ad 10, .inl (cd 5, 18, .inl ((dG d1).1))), (ad 11, .inl (cd 6, 8, .inl ((dG d1).2)))] := hD
        refine lv_aload_n hx hb d_Desk_read_60 rfl (lv_at hl 1 rfl) ?_
        refine lv_aload_n hx hb d_Desk_read_61 rfl (lv_at hl 1 rfl) ?_
        refine va_get (D := D) (ci := 3) (v := .ref (ad 0)) (C := "HeadDesk") (T := F_Desk) (N := 5) hx hb hts a_Desk hown hX.1 hP 0 rfl rfl 0 (by decide) (hts _ m_1_97) (fun _ h9 => h9) rfl d_Desk_read_62 ?_
        refine lv_aload_n hx hb d_Desk_read_65 rfl (lv_at hl 1 rfl) ?_
        refine va_get (D := D) (ci := 3) (v := .ref (ad 9)) (C := "HeadDesk") (T := F_Desk) (N := 5) hx hb hts a_Desk hown hX.1 hP 0 rfl rfl 2 (by decide) (hts _ m_1_99) (fun _ h9 => h9) rfl d_Desk_read_66 ?_
        have hFc := va_free (wc := r1W ad (ad 5) (dS d1)) hD hS hA [1] rfl
        have hpc := hx_pre hX hA hP hD hS [1] (wc := r1W ad (ad 5) (dS d1)) rfl (by decide) [.ref (ad 0), .ref (ad 9)]
        refine va_callr (va_runV (As := [.ref (ad 9)]) (rest := [.ref (ad 8)]) hI (c_Reader_trade (ad 5) (ad 9) (dS d1) H.size) (cw_V (C := "HeadDesk$Reader") 1 hts m_2_207 m_2_208 m_2_209 m_1_2 m_2_210 (by decide +kernel) ⟨by decide, by decide⟩) ⟨hpc.1, va_recv hX.1 hP (ci := 1) (q0 := 1) rfl rfl, hpc.2⟩ rfl rfl hl.1 rfl (lv_room (Nat.le_of_ble_eq_true rfl)) d_Desk_read_69 ⟨Nat.zero_le _, Nat.zero_le _⟩) hS (fun q _ h => hFc q h) hFc (fun u ra t H1 locs ht hvm hw hB hz1 hk1 hS => ?_)
        obtain ⟨era, hP1, hD1⟩ := hB
        subst era
        rw [ht] at hP1
        obtain ⟨hP, hD⟩ := va_join (wr := [(ad 8, .inr (3, [.ref (ad 0), .ref (ad 1), .ref (ad 9), .int (dN d1), .int (dL d1)])), (ad 1, .inr (2, [.ref (ad 2), .int ((dT d1).2)])), (ad 2, .inl (cd 0, 300, .inl ((dT d1).1))), (ad 3, .inl (cd 1, 100, .inl (rNs (dS d1)))), (ad 4, .inl (cd 2, 100, .inl (rNe (dS d1)))), (ad 5, .inr (0, [.ref (ad 6), .ref (ad 7)])), (ad 6, .inl (cd 3, 18, .inl (rVs (dS d1)))), (ad 7, .inl (cd 4, 8, .inl (rVr (dS d1)))), (ad 9, .inr (0, [.ref (ad 10), .ref (ad 11)])), (ad 10, .inl (cd 5, 18, .inl ((dG d1).1))), (ad 11, .inl (cd 6, 8, .inl ((dG d1).2)))]) (w1 := r1W ad (ad 9) (dS d1)) hP hD [1] [0, 2, 3, 4, 5, 6, 7, 8, 9, 10, 11] rfl rfl (by decide) (by decide) hk1 hFc hP1 hD1
        generalize H1 = H at hP hS ⊢
        have hP : va_P D vwCl [(ad 8, .inr (3, [.ref (ad 0), .ref (ad 1), .ref (ad 9), .int (dN d1), .int (dL d1)])), (ad 1, .inr (2, [.ref (ad 2), .int ((dT d1).2)])), (ad 2, .inl (cd 0, 300, .inl ((dT d1).1))), (ad 3, .inl (cd 1, 100, .inl (rNs (dS d1)))), (ad 4, .inl (cd 2, 100, .inl (rNe (dS d1)))), (ad 5, .inr (0, [.ref (ad 6), .ref (ad 7)])), (ad 6, .inl (cd 3, 18, .inl (rVs (dS d1)))), (ad 7, .inl (cd 4, 8, .inl (rVr (dS d1)))), (ad 9, .inr (0, [.ref (ad 10), .ref (ad 11)])), (ad 10, .inl (cd 5, 18, .inl ((dG d1).1))), (ad 11, .inl (cd 6, 8, .inl ((dG d1).2))), (ad 0, .inr (1, [.ref (ad 1), .ref (ad 3), .ref (ad 4), .ref (ad 9), .int (rNm (dS d1)), .int (rKd (dS d1)), .int (rPl (dS d1)), .int (rSk (dS d1)), .int (rNb (dS d1)), .int (rWs (dS d1)), .int (rWe (dS d1))]))] H := hP
        have hD : va_D A [(ad 8, .inr (3, [.ref (ad 0), .ref (ad 1), .ref (ad 9), .int (dN d1), .int (dL d1)])), (ad 1, .inr (2, [.ref (ad 2), .int ((dT d1).2)])), (ad 2, .inl (cd 0, 300, .inl ((dT d1).1))), (ad 3, .inl (cd 1, 100, .inl (rNs (dS d1)))), (ad 4, .inl (cd 2, 100, .inl (rNe (dS d1)))), (ad 5, .inr (0, [.ref (ad 6), .ref (ad 7)])), (ad 6, .inl (cd 3, 18, .inl (rVs (dS d1)))), (ad 7, .inl (cd 4, 8, .inl (rVr (dS d1)))), (ad 9, .inr (0, [.ref (ad 10), .ref (ad 11)])), (ad 10, .inl (cd 5, 18, .inl ((dG d1).1))), (ad 11, .inl (cd 6, 8, .inl ((dG d1).2))), (ad 0, .inr (1, [.ref (ad 1), .ref (ad 3), .ref (ad 4), .ref (ad 9), .int (rNm (dS d1)), .int (rKd (dS d1)), .int (rPl (dS d1)), .int (rSk (dS d1)), .int (rNb (dS d1)), .int (rWs (dS d1)), .int (rWe (dS d1))]))] := hD
        refine va_put (D := D) (ci := 3) (v := .ref (ad 5)) (ty := (.object "HeadDesk$Head")) (C := "HeadDesk") (T := F_Desk) (N := 5) hx hb hts a_Desk t_Desk k_Desk n_Desk hown hX.1 hP hD hS 0 rfl rfl 2 (by decide) (hts _ m_1_99) (fun _ h9 => h9) rfl (by decide +kernel) rfl rfl (Nat.le_of_ble_eq_true rfl) d_Desk_read_72 (fun H locs hP hD hS => ?_)
        have hP : va_P D vwCl [(ad 8, .inr (3, [.ref (ad 0), .ref (ad 1), .ref (ad 5), .int (dN d1), .int (dL d1)])), (ad 1, .inr (2, [.ref (ad 2), .int ((dT d1).2)])), (ad 2, .inl (cd 0, 300, .inl ((dT d1).1))), (ad 3, .inl (cd 1, 100, .inl (rNs (dS d1)))), (ad 4, .inl (cd 2, 100, .inl (rNe (dS d1)))), (ad 5, .inr (0, [.ref (ad 6), .ref (ad 7)])), (ad 6, .inl (cd 3, 18, .inl (rVs (dS d1)))), (ad 7, .inl (cd 4, 8, .inl (rVr (dS d1)))), (ad 9, .inr (0, [.ref (ad 10), .ref (ad 11)])), (ad 10, .inl (cd 5, 18, .inl ((dG d1).1))), (ad 11, .inl (cd 6, 8, .inl ((dG d1).2))), (ad 0, .inr (1, [.ref (ad 1), .ref (ad 3), .ref (ad 4), .ref (ad 9), .int (rNm (dS d1)), .int (rKd (dS d1)), .int (rPl (dS d1)), .int (rSk (dS d1)), .int (rNb (dS d1)), .int (rWs (dS d1)), .int (rWe (dS d1))]))] H := hP
        have hD : va_D A [(ad 8, .inr (3, [.ref (ad 0), .ref (ad 1), .ref (ad 5), .int (dN d1), .int (dL d1)])), (ad 1, .inr (2, [.ref (ad 2), .int ((dT d1).2)])), (ad 2, .inl (cd 0, 300, .inl ((dT d1).1))), (ad 3, .inl (cd 1, 100, .inl (rNs (dS d1)))), (ad 4, .inl (cd 2, 100, .inl (rNe (dS d1)))), (ad 5, .inr (0, [.ref (ad 6), .ref (ad 7)])), (ad 6, .inl (cd 3, 18, .inl (rVs (dS d1)))), (ad 7, .inl (cd 4, 8, .inl (rVr (dS d1)))), (ad 9, .inr (0, [.ref (ad 10), .ref (ad 11)])), (ad 10, .inl (cd 5, 18, .inl ((dG d1).1))), (ad 11, .inl (cd 6, 8, .inl ((dG d1).2))), (ad 0, .inr (1, [.ref (ad 1), .ref (ad 3), .ref (ad 4), .ref (ad 9), .int (rNm (dS d1)), .int (rKd (dS d1)), .int (rPl (dS d1)), .int (rSk (dS d1)), .int (rNb (dS d1)), .int (rWs (dS d1)), .int (rWe (dS d1))]))] := hD
        refine lv_aload_n hx hb d_Desk_read_75 rfl (lv_at hl 1 rfl) ?_
        refine lv_dup hx hb d_Desk_read_76 rfl ?_
        refine va_get (D := D) (ci := 3) (v := .int (dN d1)) (C := "HeadDesk") (T := F_Desk) (N := 5) hx hb hts a_Desk hown hX.1 hP 0 rfl rfl 3 (by decide) (hts _ m_1_100) (fun _ h9 => h9) rfl d_Desk_read_77 ?_
        refine lv_iconst (v := 1) hx hb d_Desk_read_80 (by decide) ?_
        refine lv_iadd hx hb d_Desk_read_81 ?_
        refine va_put (D := D) (ci := 3) (v := .int ((dN d1) + 1)) (ty := .int) (C := "HeadDesk") (T := F_Desk) (N := 5) hx hb hts a_Desk t_Desk k_Desk n_Desk hown hX.1 hP hD hS 0 rfl rfl 3 (by decide) (hts _ m_1_100) (fun _ h9 => h9) rfl (by decide +kernel) rfl rfl (Nat.le_of_ble_eq_true rfl) d_Desk_read_82 (fun H locs hP hD hS => ?_)
        have hP : va_P D vwCl [(ad 8, .inr (3, [.ref (ad 0), .ref (ad 1), .ref (ad 5), .int ((dN d1) + 1), .int (dL d1)])), (ad 1, .inr (2, [.ref (ad 2), .int ((dT d1).2)])), (ad 2, .inl (cd 0, 300, .inl ((dT d1).1))), (ad 3, .inl (cd 1, 100, .inl (rNs (dS d1)))), (ad 4, .inl (cd 2, 100, .inl (rNe (dS d1)))), (ad 5, .inr (0, [.ref (ad 6), .ref (ad 7)])), (ad 6, .inl (cd 3, 18, .inl (rVs (dS d1)))), (ad 7, .inl (cd 4, 8, .inl (rVr (dS d1)))), (ad 9, .inr (0, [.ref (ad 10), .ref (ad 11)])), (ad 10, .inl (cd 5, 18, .inl ((dG d1).1))), (ad 11, .inl (cd 6, 8, .inl ((dG d1).2))), (ad 0, .inr (1, [.ref (ad 1), .ref (ad 3), .ref (ad 4), .ref (ad 9), .int (rNm (dS d1)), .int (rKd (dS d1)), .int (rPl (dS d1)), .int (rSk (dS d1)), .int (rNb (dS d1)), .int (rWs (dS d1)), .int (rWe (dS d1))]))] H := hP
        have hD : va_D A [(ad 8, .inr (3, [.ref (ad 0), .ref (ad 1), .ref (ad 5), .int ((dN d1) + 1), .int (dL d1)])), (ad 1, .inr (2, [.ref (ad 2), .int ((dT d1).2)])), (ad 2, .inl (cd 0, 300, .inl ((dT d1).1))), (ad 3, .inl (cd 1, 100, .inl (rNs (dS d1)))), (ad 4, .inl (cd 2, 100, .inl (rNe (dS d1)))), (ad 5, .inr (0, [.ref (ad 6), .ref (ad 7)])), (ad 6, .inl (cd 3, 18, .inl (rVs (dS d1)))), (ad 7, .inl (cd 4, 8, .inl (rVr (dS d1)))), (ad 9, .inr (0, [.ref (ad 10), .ref (ad 11)])), (ad 10, .inl (cd 5, 18, .inl ((dG d1).1))), (ad 11, .inl (cd 6, 8, .inl ((dG d1).2))), (ad 0, .inr (1, [.ref (ad 1), .ref (ad 3), .ref (ad 4), .ref (ad 9), .int (rNm (dS d1)), .int (rKd (dS d1)), .int (rPl (dS d1)), .int (rSk (dS d1)), .int (rNb (dS d1)), .int (rWs (dS d1)), .int (rWe (dS d1))]))] := hD
        refine lv_aload_n hx hb d_Desk_read_85 rfl (lv_at hl 1 rfl) ?_
        refine va_get (D := D) (ci := 3) (v := .int ((dN d1) + 1)) (C := "HeadDesk") (T := F_Desk) (N := 5) hx hb hts a_Desk hown hX.1 hP 0 rfl rfl 3 (by decide) (hts _ m_1_100) (fun _ h9 => h9) rfl d_Desk_read_86 ?_
        have hP : va_P D vwCl (dkW (adS ad) (cdS cd) (fRdT d1)) H := hP.sub [0, 11, 1, 2, 3, 4, 8, 9, 10, 5, 6, 7] rfl
        have hD : va_D A (dkW (adS ad) (cdS cd) (fRdT d1)) := hD.sub [0, 11, 1, 2, 3, 4, 8, 9, 10, 5, 6, 7] (by decide) rfl
        refine hx_top (v := dN (fRd d x).2) (by rw [hF]; rfl) ?_
        exact hret H locs ls (by rw [hF]; exact hP) (by rw [hF]; exact hD) hS (by rw [hF])
      · skip
        have c_47 : ((fTxt (dT d) (dS d) x).1) = false := bI_0 c_47
        have hF : fRd d x = (false, fRdC d x) := by simp only [fRd, if_pos c_1, fRdB, c_47, Bool.false_eq_true, ↓reduceIte]
        have e9 : uL s_32 (rSk (dS s_32)) = fRdC d x := by rw [e_32, e_24]; rfl
        rw [e9] at hP hD
        exact hthr H locs ls 50 59 (adK 18) "no such text" (hX.2.2.2.2.2.1 _ _ _ _ st_18) d_Desk_read_50 d_Desk_read_53 d_Desk_read_54 d_Desk_read_56 d_Desk_read_59 (by rw [hF]; exact hP) (by rw [hF]; exact hD) hS hl.1 (by rw [hF])
    · skip
      have c_1 : ¬ (x = 0) := c_1
      refine lv_iload_n hx hb d_Desk_read_4 rfl (lv_at hl 1 rfl) ?_
      refine lv_iconst (v := 1) hx hb d_Desk_read_5 (by decide) ?_
      refine lv_icmp_eq (tgt := 19) hx hb d_Desk_read_6 (by decide) (fun c_6 => ?_) (fun c_6 => ?_)
      · skip
        have c_6 : (x = 1) := c_6
        refine lv_aload_n hx hb d_Desk_read_19 rfl (lv_at hl 0 rfl) ?_
        refine va_get (D := D) (ci := 3) (v := .ref (ad 0)) (C := "HeadDesk") (T := F_Desk) (N := 5) hx hb hts a_Desk hown hX.1 hP 0 rfl rfl 0 (by decide) (hts _ m_1_97) (fun _ h9 => h9) rfl d_Desk_read_20 ?_
        refine lv_iload_n hx hb d_Desk_read_23 rfl (lv_at hl 1 rfl) ?_
        refine hx_Vz (wr := [(ad 8, .inr (3, [.ref (ad 0), .ref (ad 1), .ref (ad 9), .int (dN d), .int (dL d)])), (ad 9, .inr (0, [.ref (ad 10), .ref (ad 11)])), (ad 10, .inl (cd 5, 18, .inl ((dG d).1))), (ad 11, .inl (cd 6, 8, .inl ((dG d).2)))]) (As := [.int x]) (rest := []) hI (c_Reader_readText hT (dS d) x) (cw_V (C := "HeadDesk$Reader") 1 hts m_2_3 m_2_4 m_2_5 m_1_2 m_2_6 (by decide +kernel) ⟨by decide, by decide⟩) hX hA hP hD hS [1, 2, 3, 4, 5, 6, 7, 8] [0, 9, 10, 11] rfl rfl (by decide) (by decide) (by decide) (va_recv hX.1 hP (ci := 1) (q0 := 1) rfl rfl) rfl hl.1 rfl (Nat.le_of_ble_eq_true rfl) d_Desk_read_24 ⟨Nat.zero_le _, Nat.zero_le _⟩ (fun H locs hP hD hS => ?_)
        obtain ⟨s_24, e_24⟩ : ∃ z : DS, z = uS d (fTxt (dT d) (dS d) x).2 := ⟨_, rfl⟩
        have hP : va_P D vwCl (dkW ad cd s_24) H := by rw [e_24]; exact hP.sub [0, 4, 5, 6, 7, 8, 9, 10, 11, 1, 2, 3] rfl
        have hD : va_D A (dkW ad cd s_24) := by rw [e_24]; exact hD.sub [0, 4, 5, 6, 7, 8, 9, 10, 11, 1, 2, 3] (by decide) rfl
        refine lv_istore_n (lv' := [(2, .int (bI (fTxt (dT d) (dS d) x).1)), (0, .ref (ad 8)), (1, .int x)]) hx hb d_Desk_read_27 rfl hl (by decide) rfl (fun ls hl => ?_)
        refine lv_aload_n hx hb d_Desk_read_28 rfl (lv_at hl 1 rfl) ?_
        refine va_get (D := D) (ci := 3) (v := .ref (ad 1)) (C := "HeadDesk") (T := F_Desk) (N := 5) hx hb hts a_Desk hown hX.1 hP 0 rfl rfl 1 (by decide) (hts _ m_1_98) (fun _ h9 => h9) rfl d_Desk_read_29 ?_
        refine hx_Vv (wr := [(ad 8, .inr (3, [.ref (ad 0), .ref (ad 1), .ref (ad 9), .int (dN s_24), .int (dL s_24)])), (ad 0, .inr (1, [.ref (ad 1), .ref (ad 3), .ref (ad 4), .ref (ad 5), .int (rNm (dS s_24)), .int (rKd (dS s_24)), .int (rPl (dS s_24)), .int (rSk (dS s_24)), .int (rNb (dS s_24)), .int (rWs (dS s_24)), .int (rWe (dS s_24))])), (ad 3, .inl (cd 1, 100, .inl (rNs (dS s_24)))), (ad 4, .inl (cd 2, 100, .inl (rNe (dS s_24)))), (ad 5, .inr (0, [.ref (ad 6), .ref (ad 7)])), (ad 6, .inl (cd 3, 18, .inl (rVs (dS s_24)))), (ad 7, .inl (cd 4, 8, .inl (rVr (dS s_24)))), (ad 9, .inr (0, [.ref (ad 10), .ref (ad 11)])), (ad 10, .inl (cd 5, 18, .inl ((dG s_24).1))), (ad 11, .inl (cd 6, 8, .inl ((dG s_24).2)))]) (As := []) (rest := []) hI (c_Tape_empty (T := dT s_24)) (cw_V (C := "HeadDesk$Tape") 0 hts m_2_198 m_2_199 m_2_200 m_1_3 m_2_201 (by decide +kernel) ⟨by decide, by decide⟩) hX hA hP hD hS [2, 3] [0, 1, 4, 5, 6, 7, 8, 9, 10, 11] rfl rfl (by decide) (by decide) (by decide) (va_recv hX.1 hP (ci := 2) (q0 := 2) rfl rfl) rfl hl.1 rfl (Nat.le_of_ble_eq_true rfl) d_Desk_read_32 ⟨Nat.zero_le _, Nat.zero_le _⟩ (fun H locs hP hD hS => ?_)
        obtain ⟨s_32, e_32⟩ : ∃ z : DS, z = uT s_24 ((dT s_24).1, 0) := ⟨_, rfl⟩
        have hP : va_P D vwCl (dkW ad cd s_32) H := by rw [e_32]; exact hP.sub [0, 1, 10, 11, 2, 3, 4, 5, 6, 7, 8, 9] rfl
        have hD : va_D A (dkW ad cd s_32) := by rw [e_32]; exact hD.sub [0, 1, 10, 11, 2, 3, 4, 5, 6, 7, 8, 9] (by decide) rfl
        refine lv_aload_n hx hb d_Desk_read_35 rfl (lv_at hl 1 rfl) ?_
        refine lv_aload_n hx hb d_Desk_read_36 rfl (lv_at hl 1 rfl) ?_
        refine va_get (D := D) (ci := 3) (v := .ref (ad 0)) (C := "HeadDesk") (T := F_Desk) (N := 5) hx hb hts a_Desk hown hX.1 hP 0 rfl rfl 0 (by decide) (hts _ m_1_97) (fun _ h9 => h9) rfl d_Desk_read_37 ?_
        refine hx_Vi (wr := [(ad 8, .inr (3, [.ref (ad 0), .ref (ad 1), .ref (ad 9), .int (dN s_32), .int (dL s_32)])), (ad 9, .inr (0, [.ref (ad 10), .ref (ad 11)])), (ad 10, .inl (cd 5, 18, .inl ((dG s_32).1))), (ad 11, .inl (cd 6, 8, .inl ((dG s_32).2)))]) (As := []) (rest := [.ref (ad 8)]) hI (c_Reader_stuckAt (T := dT s_32) (by rw [e_32]; exact (by decide : (0 : Int32) ≤ 300)) (dS s_32)) (cw_V (C := "HeadDesk$Reader") 0 hts m_2_202 m_2_203 m_2_204 m_1_2 m_2_205 (by decide +kernel) ⟨by decide, by decide⟩) hX hA hP hD hS [1, 2, 3, 4, 5, 6, 7, 8] [0, 9, 10, 11] rfl rfl (by decide) (by decide) (by decide) (va_recv hX.1 hP (ci := 1) (q0 := 1) rfl rfl) rfl hl.1 rfl (Nat.le_of_ble_eq_true rfl) d_Desk_read_40 ⟨Nat.zero_le _, Nat.zero_le _⟩ (fun H locs hP hD hS => ?_)
        have hP : va_P D vwCl (dkW ad cd s_32) H := hP.sub [0, 4, 5, 6, 7, 8, 9, 10, 11, 1, 2, 3] rfl
        have hD : va_D A (dkW ad cd s_32) := hD.sub [0, 4, 5, 6, 7, 8, 9, 10, 11, 1, 2, 3] (by decide) rfl
        refine va_put (D := D) (ci := 3) (v := .int (rSk (dS s_32))) (ty := .int) (C := "HeadDesk") (T := F_Desk) (N := 5) hx hb hts a_Desk t_Desk k_Desk n_Desk hown hX.1 hP hD hS 0 rfl rfl 4 (by decide) (hts _ m_1_101) (fun _ h9 => h9) rfl (by decide +kernel) rfl rfl (Nat.le_of_ble_eq_true rfl) d_Desk_read_43 (fun H locs hP hD hS => ?_)
        have hP : va_P D vwCl (dkW ad cd (uL s_32 (rSk (dS s_32)))) H := hP
        have hD : va_D A (dkW ad cd (uL s_32 (rSk (dS s_32)))) := hD
        refine lv_iload_n hx hb d_Desk_read_46 rfl (lv_at hl 0 rfl) ?_
        refine lv_if_ne (tgt := 60) hx hb d_Desk_read_47 (by decide) (fun c_47 => ?_) (fun c_47 => ?_)
        · skip
          have c_47 : ((fTxt (dT d) (dS d) x).1) = true := bI_1 c_47
          have hF : fRd d x = (true, fRdT (fRdC d x)) := by simp only [fRd, if_neg c_1, if_pos c_6, fRdB, c_47, ↓reduceIte]
          have e9 : uL s_32 (rSk (dS s_32)) = fRdC d x := by rw [e_32, e_24]; rfl
          rw [e9] at hP hD
          obtain ⟨d1, e_d1⟩ : ∃ z : DS, z = fRdC d x := ⟨_, rfl⟩
          rw [← e_d1] at hP hD hF
          have hP : va_P D vwCl [(ad 8, .inr (3, [.ref (ad 0), .ref (ad 1), .ref (ad 9), .int (dN d1), .int (dL d1)])), (ad 0, .inr (1, [.ref (ad 1), .ref (ad 3), .ref (ad 4), .ref (ad 5), .int (rNm (dS d1)), .int (rKd (dS d1)), .int (rPl (dS d1)), .int (rSk (dS d1)), .int (rNb (dS d1)), .int (rWs (dS d1)), .int (rWe (dS d1))])), (ad 1, .inr (2, [.ref (ad 2), .int ((dT d1).2)])), (ad 2, .inl (cd 0, 300, .inl ((dT d1).1))), (ad 3, .inl (cd 1, 100, .inl (rNs (dS d1)))), (ad 4, .inl (cd 2, 100, .inl (rNe (dS d1)))), (ad 5, .inr (0, [.ref (ad 6), .ref (ad 7)])), (ad 6, .inl (cd 3, 18, .inl (rVs (dS d1)))), (ad 7, .inl (cd 4, 8, .inl (rVr (dS d1)))), (ad 9, .inr (0, [.ref (ad 10), .ref (ad 11)])), (ad 10, .inl (cd 5, 18, .inl ((dG d1).1))), (ad 11, .inl (cd 6, 8, .inl ((dG d1).2)))] H := hP
          have hD : va_D A [(ad 8, .inr (3, [.ref (ad 0), .ref (ad 1), .ref (ad 9), .int (dN d1), .int (dL d1)])), (ad 0, .inr (1, [.ref (ad 1), .ref (ad 3), .ref (ad 4), .ref (ad 5), .int (rNm (dS d1)), .int (rKd (dS d1)), .int (rPl (dS d1)), .int (rSk (dS d1)), .int (rNb (dS d1)), .int (rWs (dS d1)), .int (rWe (dS d1))])), (ad 1, .inr (2, [.ref (ad 2), .int ((dT d1).2)])), (ad 2, .inl (cd 0, 300, .inl ((dT d1).1))), (ad 3, .inl (cd 1, 100, .inl (rNs (dS d1)))), (ad 4, .inl (cd 2, 100, .inl (rNe (dS d1)))), (ad 5, .inr (0, [.ref (ad 6), .ref (ad 7)])), (ad 6, .inl (cd 3, 18, .inl (rVs (dS d1)))), (ad 7, .inl (cd 4, 8, .inl (rVr (dS d1)))), (ad 9, .inr (0, [.ref (ad 10), .ref (ad 11)])), (ad 10, .inl (cd 5, 18, .inl ((dG d1).1))), (ad 11, .inl (cd 6, 8, .inl ((dG d1).2)))] := hD
          refine lv_aload_n hx hb d_Desk_read_60 rfl (lv_at hl 1 rfl) ?_
          refine lv_aload_n hx hb d_Desk_read_61 rfl (lv_at hl 1 rfl) ?_
          refine va_get (D := D) (ci := 3) (v := .ref (ad 0)) (C := "HeadDesk") (T := F_Desk) (N := 5) hx hb hts a_Desk hown hX.1 hP 0 rfl rfl 0 (by decide) (hts _ m_1_97) (fun _ h9 => h9) rfl d_Desk_read_62 ?_
          refine lv_aload_n hx hb d_Desk_read_65 rfl (lv_at hl 1 rfl) ?_
          refine va_get (D := D) (ci := 3) (v := .ref (ad 9)) (C := "HeadDesk") (T := F_Desk) (N := 5) hx hb hts a_Desk hown hX.1 hP 0 rfl rfl 2 (by decide) (hts _ m_1_99) (fun _ h9 => h9) rfl d_Desk_read_66 ?_
          have hFc := va_free (wc := r1W ad (ad 5) (dS d1)) hD hS hA [1] rfl
          have hpc := hx_pre hX hA hP hD hS [1] (wc := r1W ad (ad 5) (dS d1)) rfl (by decide) [.ref (ad 0), .ref (ad 9)]
          refine va_callr (va_runV (As := [.ref (ad 9)]) (rest := [.ref (ad 8)]) hI (c_Reader_trade (ad 5) (ad 9) (dS d1) H.size) (cw_V (C := "HeadDesk$Reader") 1 hts m_2_207 m_2_208 m_2_209 m_1_2 m_2_210 (by decide +kernel) ⟨by decide, by decide⟩) ⟨hpc.1, va_recv hX.1 hP (ci := 1) (q0 := 1) rfl rfl, hpc.2⟩ rfl rfl hl.1 rfl (lv_room (Nat.le_of_ble_eq_true rfl)) d_Desk_read_69 ⟨Nat.zero_le _, Nat.zero_le _⟩) hS (fun q _ h => hFc q h) hFc (fun u ra t H1 locs ht hvm hw hB hz1 hk1 hS => ?_)
          obtain ⟨era, hP1, hD1⟩ := hB
          subst era
          rw [ht] at hP1
          obtain ⟨hP, hD⟩ := va_join (wr := [(ad 8, .inr (3, [.ref (ad 0), .ref (ad 1), .ref (ad 9), .int (dN d1), .int (dL d1)])), (ad 1, .inr (2, [.ref (ad 2), .int ((dT d1).2)])), (ad 2, .inl (cd 0, 300, .inl ((dT d1).1))), (ad 3, .inl (cd 1, 100, .inl (rNs (dS d1)))), (ad 4, .inl (cd 2, 100, .inl (rNe (dS d1)))), (ad 5, .inr (0, [.ref (ad 6), .ref (ad 7)])), (ad 6, .inl (cd 3, 18, .inl (rVs (dS d1)))), (ad 7, .inl (cd 4, 8, .inl (rVr (dS d1)))), (ad 9, .inr (0, [.ref (ad 10), .ref (ad 11)])), (ad 10, .inl (cd 5, 18, .inl ((dG d1).1))), (ad 11, .inl (cd 6, 8, .inl ((dG d1).2)))]) (w1 := r1W ad (ad 9) (dS d1)) hP hD [1] [0, 2, 3, 4, 5, 6, 7, 8, 9, 10, 11] rfl rfl (by decide) (by decide) hk1 hFc hP1 hD1
          generalize H1 = H at hP hS ⊢
          have hP : va_P D vwCl [(ad 8, .inr (3, [.ref (ad 0), .ref (ad 1), .ref (ad 9), .int (dN d1), .int (dL d1)])), (ad 1, .inr (2, [.ref (ad 2), .int ((dT d1).2)])), (ad 2, .inl (cd 0, 300, .inl ((dT d1).1))), (ad 3, .inl (cd 1, 100, .inl (rNs (dS d1)))), (ad 4, .inl (cd 2, 100, .inl (rNe (dS d1)))), (ad 5, .inr (0, [.ref (ad 6), .ref (ad 7)])), (ad 6, .inl (cd 3, 18, .inl (rVs (dS d1)))), (ad 7, .inl (cd 4, 8, .inl (rVr (dS d1)))), (ad 9, .inr (0, [.ref (ad 10), .ref (ad 11)])), (ad 10, .inl (cd 5, 18, .inl ((dG d1).1))), (ad 11, .inl (cd 6, 8, .inl ((dG d1).2))), (ad 0, .inr (1, [.ref (ad 1), .ref (ad 3), .ref (ad 4), .ref (ad 9), .int (rNm (dS d1)), .int (rKd (dS d1)), .int (rPl (dS d1)), .int (rSk (dS d1)), .int (rNb (dS d1)), .int (rWs (dS d1)), .int (rWe (dS d1))]))] H := hP
          have hD : va_D A [(ad 8, .inr (3, [.ref (ad 0), .ref (ad 1), .ref (ad 9), .int (dN d1), .int (dL d1)])), (ad 1, .inr (2, [.ref (ad 2), .int ((dT d1).2)])), (ad 2, .inl (cd 0, 300, .inl ((dT d1).1))), (ad 3, .inl (cd 1, 100, .inl (rNs (dS d1)))), (ad 4, .inl (cd 2, 100, .inl (rNe (dS d1)))), (ad 5, .inr (0, [.ref (ad 6), .ref (ad 7)])), (ad 6, .inl (cd 3, 18, .inl (rVs (dS d1)))), (ad 7, .inl (cd 4, 8, .inl (rVr (dS d1)))), (ad 9, .inr (0, [.ref (ad 10), .ref (ad 11)])), (ad 10, .inl (cd 5, 18, .inl ((dG d1).1))), (ad 11, .inl (cd 6, 8, .inl ((dG d1).2))), (ad 0, .inr (1, [.ref (ad 1), .ref (ad 3), .ref (ad 4), .ref (ad 9), .int (rNm (dS d1)), .int (rKd (dS d1)), .int (rPl (dS d1)), .int (rSk (dS d1)), .int (rNb (dS d1)), .int (rWs (dS d1)), .int (rWe (dS d1))]))] := hD
          refine va_put (D := D) (ci := 3) (v := .ref (ad 5)) (ty := (.object "HeadDesk$Head")) (C := "HeadDesk") (T := F_Desk) (N := 5) hx hb hts a_Desk t_Desk k_Desk n_Desk hown hX.1 hP hD hS 0 rfl rfl 2 (by decide) (hts _ m_1_99) (fun _ h9 => h9) rfl (by decide +kernel) rfl rfl (Nat.le_of_ble_eq_true rfl) d_Desk_read_72 (fun H locs hP hD hS => ?_)
          have hP : va_P D vwCl [(ad 8, .inr (3, [.ref (ad 0), .ref (ad 1), .ref (ad 5), .int (dN d1), .int (dL d1)])), (ad 1, .inr (2, [.ref (ad 2), .int ((dT d1).2)])), (ad 2, .inl (cd 0, 300, .inl ((dT d1).1))), (ad 3, .inl (cd 1, 100, .inl (rNs (dS d1)))), (ad 4, .inl (cd 2, 100, .inl (rNe (dS d1)))), (ad 5, .inr (0, [.ref (ad 6), .ref (ad 7)])), (ad 6, .inl (cd 3, 18, .inl (rVs (dS d1)))), (ad 7, .inl (cd 4, 8, .inl (rVr (dS d1)))), (ad 9, .inr (0, [.ref (ad 10), .ref (ad 11)])), (ad 10, .inl (cd 5, 18, .inl ((dG d1).1))), (ad 11, .inl (cd 6, 8, .inl ((dG d1).2))), (ad 0, .inr (1, [.ref (ad 1), .ref (ad 3), .ref (ad 4), .ref (ad 9), .int (rNm (dS d1)), .int (rKd (dS d1)), .int (rPl (dS d1)), .int (rSk (dS d1)), .int (rNb (dS d1)), .int (rWs (dS d1)), .int (rWe (dS d1))]))] H := hP
          have hD : va_D A [(ad 8, .inr (3, [.ref (ad 0), .ref (ad 1), .ref (ad 5), .int (dN d1), .int (dL d1)])), (ad 1, .inr (2, [.ref (ad 2), .int ((dT d1).2)])), (ad 2, .inl (cd 0, 300, .inl ((dT d1).1))), (ad 3, .inl (cd 1, 100, .inl (rNs (dS d1)))), (ad 4, .inl (cd 2, 100, .inl (rNe (dS d1)))), (ad 5, .inr (0, [.ref (ad 6), .ref (ad 7)])), (ad 6, .inl (cd 3, 18, .inl (rVs (dS d1)))), (ad 7, .inl (cd 4, 8, .inl (rVr (dS d1)))), (ad 9, .inr (0, [.ref (ad 10), .ref (ad 11)])), (ad 10, .inl (cd 5, 18, .inl ((dG d1).1))), (ad 11, .inl (cd 6, 8, .inl ((dG d1).2))), (ad 0, .inr (1, [.ref (ad 1), .ref (ad 3), .ref (ad 4), .ref (ad 9), .int (rNm (dS d1)), .int (rKd (dS d1)), .int (rPl (dS d1)), .int (rSk (dS d1)), .int (rNb (dS d1)), .int (rWs (dS d1)), .int (rWe (dS d1))]))] := hD
          refine lv_aload_n hx hb d_Desk_read_75 rfl (lv_at hl 1 rfl) ?_
          refine lv_dup hx hb d_Desk_read_76 rfl ?_
          refine va_get (D := D) (ci := 3) (v := .int (dN d1)) (C := "HeadDesk") (T := F_Desk) (N := 5) hx hb hts a_Desk hown hX.1 hP 0 rfl rfl 3 (by decide) (hts _ m_1_100) (fun _ h9 => h9) rfl d_Desk_read_77 ?_
          refine lv_iconst (v := 1) hx hb d_Desk_read_80 (by decide) ?_
          refine lv_iadd hx hb d_Desk_read_81 ?_
          refine va_put (D := D) (ci := 3) (v := .int ((dN d1) + 1)) (ty := .int) (C := "HeadDesk") (T := F_Desk) (N := 5) hx hb hts a_Desk t_Desk k_Desk n_Desk hown hX.1 hP hD hS 0 rfl rfl 3 (by decide) (hts _ m_1_100) (fun _ h9 => h9) rfl (by decide +kernel) rfl rfl (Nat.le_of_ble_eq_true rfl) d_Desk_read_82 (fun H locs hP hD hS => ?_)
          have hP : va_P D vwCl [(ad 8, .inr (3, [.ref (ad 0), .ref (ad 1), .ref (ad 5), .int ((dN d1) + 1), .int (dL d1)])), (ad 1, .inr (2, [.ref (ad 2), .int ((dT d1).2)])), (ad 2, .inl (cd 0, 300, .inl ((dT d1).1))), (ad 3, .inl (cd 1, 100, .inl (rNs (dS d1)))), (ad 4, .inl (cd 2, 100, .inl (rNe (dS d1)))), (ad 5, .inr (0, [.ref (ad 6), .ref (ad 7)])), (ad 6, .inl (cd 3, 18, .inl (rVs (dS d1)))), (ad 7, .inl (cd 4, 8, .inl (rVr (dS d1)))), (ad 9, .inr (0, [.ref (ad 10), .ref (ad 11)])), (ad 10, .inl (cd 5, 18, .inl ((dG d1).1))), (ad 11, .inl (cd 6, 8, .inl ((dG d1).2))), (ad 0, .inr (1, [.ref (ad 1), .ref (ad 3), .ref (ad 4), .ref (ad 9), .int (rNm (dS d1)), .int (rKd (dS d1)), .int (rPl (dS d1)), .int (rSk (dS d1)), .int (rNb (dS d1)), .int (rWs (dS d1)), .int (rWe (dS d1))]))] H := hP
          have hD : va_D A [(ad 8, .inr (3, [.ref (ad 0), .ref (ad 1), .ref (ad 5), .int ((dN d1) + 1), .int (dL d1)])), (ad 1, .inr (2, [.ref (ad 2), .int ((dT d1).2)])), (ad 2, .inl (cd 0, 300, .inl ((dT d1).1))), (ad 3, .inl (cd 1, 100, .inl (rNs (dS d1)))), (ad 4, .inl (cd 2, 100, .inl (rNe (dS d1)))), (ad 5, .inr (0, [.ref (ad 6), .ref (ad 7)])), (ad 6, .inl (cd 3, 18, .inl (rVs (dS d1)))), (ad 7, .inl (cd 4, 8, .inl (rVr (dS d1)))), (ad 9, .inr (0, [.ref (ad 10), .ref (ad 11)])), (ad 10, .inl (cd 5, 18, .inl ((dG d1).1))), (ad 11, .inl (cd 6, 8, .inl ((dG d1).2))), (ad 0, .inr (1, [.ref (ad 1), .ref (ad 3), .ref (ad 4), .ref (ad 9), .int (rNm (dS d1)), .int (rKd (dS d1)), .int (rPl (dS d1)), .int (rSk (dS d1)), .int (rNb (dS d1)), .int (rWs (dS d1)), .int (rWe (dS d1))]))] := hD
          refine lv_aload_n hx hb d_Desk_read_85 rfl (lv_at hl 1 rfl) ?_
          refine va_get (D := D) (ci := 3) (v := .int ((dN d1) + 1)) (C := "HeadDesk") (T := F_Desk) (N := 5) hx hb hts a_Desk hown hX.1 hP 0 rfl rfl 3 (by decide) (hts _ m_1_100) (fun _ h9 => h9) rfl d_Desk_read_86 ?_
          have hP : va_P D vwCl (dkW (adS ad) (cdS cd) (fRdT d1)) H := hP.sub [0, 11, 1, 2, 3, 4, 8, 9, 10, 5, 6, 7] rfl
          have hD : va_D A (dkW (adS ad) (cdS cd) (fRdT d1)) := hD.sub [0, 11, 1, 2, 3, 4, 8, 9, 10, 5, 6, 7] (by decide) rfl
          refine hx_top (v := dN (fRd d x).2) (by rw [hF]; rfl) ?_
          exact hret H locs ls (by rw [hF]; exact hP) (by rw [hF]; exact hD) hS (by rw [hF])
        · skip
          have c_47 : ((fTxt (dT d) (dS d) x).1) = false := bI_0 c_47
          have hF : fRd d x = (false, fRdC d x) := by simp only [fRd, if_neg c_1, if_pos c_6, fRdB, c_47, Bool.false_eq_true, ↓reduceIte]
          have e9 : uL s_32 (rSk (dS s_32)) = fRdC d x := by rw [e_32, e_24]; rfl
          rw [e9] at hP hD
          exact hthr H locs ls 50 59 (adK 18) "no such text" (hX.2.2.2.2.2.1 _ _ _ _ st_18) d_Desk_read_50 d_Desk_read_53 d_Desk_read_54 d_Desk_read_56 d_Desk_read_59 (by rw [hF]; exact hP) (by rw [hF]; exact hD) hS hl.1 (by rw [hF])
      · skip
        have c_6 : ¬ (x = 1) := c_6
        have hF : fRd d x = (false, d) := by simp only [fRd, if_neg c_1, if_neg c_6]
        exact hthr H locs ls 9 43 (adK 0) "no such kind" (hX.2.2.2.2.2.1 _ _ _ _ st_0) d_Desk_read_9 d_Desk_read_12 d_Desk_read_13 d_Desk_read_15 d_Desk_read_18 (by rw [hF]; exact hP) (by rw [hF]; exact hD) hS hl.1 (by rw [hF])
  rw [hH, hlo] at goal
  exact goal
