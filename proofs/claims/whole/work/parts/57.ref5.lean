variable {l : Launch} {D : va_G} {bd : Nat → Nat} {ce : Nat → ClassId} {adK adV : Nat → Nat} {tF : Nat} {tys : List (ClassId × FieldType)}

set_option maxHeartbeats 4000000 in
set_option maxRecDepth 100000 in
theorem c_Mod_isSame (st : MS) (hv : mInv st) (x : Int32) (y : Int32) (z : Int32) (q : Int32) (hA1 : sp_ok x y) (hB1 : sp_ok z q) : hx_Mz l D (tyM ce) adK adV tF (mdW bd ce) y_Mod_isSame w_Mod_isSame (rmD 1) [.ref (bd 0), .int x, .int y, .int z, .int q] st (mSame (gTp st) x y z q) st := by
  refine hx_Mz.of (cc := b_Mod_isSame) (maxL := 7) (by decide) rfl (Nat.le_of_ble_eq_true rfl) ?_
  intro p e s m below meth c A Q ls hI hX hA hP hD hS hl hret
  obtain ⟨hx, hb, hml, hown, hts⟩ := id hI
  have hts : ∀ w ∈ aw, w.before ([.ref (bd 0), .int x, .int y, .int z, .int q] : List Value).toArray s = true := fun w h => hts w (List.mem_cons_of_mem _ h)
  have hown : s.vm.findClass "HeadDeskModel" = some m.cls := hown
  have hI : hx_In p s m ([.ref (bd 0), .int x, .int y, .int z, .int q] : List Value).toArray c b_Mod_isSame 7 "HeadDeskModel" aw := ⟨hx, hb, hml, hown, hts⟩
  have hP : va_P D vwCl (mdW bd ce st) s.heap := hP
  obtain ⟨H, hH⟩ : ∃ H, H = s.heap := ⟨_, rfl⟩
  obtain ⟨locs, hlo⟩ : ∃ locs : List Loc, locs = [] := ⟨_, rfl⟩
  have hS : va_S A s.heap H locs := by rw [hH, hlo]; exact hS
  have hP : va_P D vwCl (mdW bd ce st) H := by rw [hH]; exact hP
  have hl : lv_has ls 7 [(0, .ref (bd 0)), (1, .int x), (2, .int y), (3, .int z), (4, .int q)] := hl
  have goal : W p l e (rmD 1) s m ([.ref (bd 0), .int x, .int y, .int z, .int q] : List Value).toArray below meth c H locs 0 0 Q (F0 m 0 ls []) := by
    refine lv_iload_n hx hb d_Mod_isSame_0 rfl (lv_at hl 2 rfl) ?_
    refine lv_iload_n hx hb d_Mod_isSame_1 rfl (lv_at hl 1 rfl) ?_
    refine lv_isub hx hb d_Mod_isSame_2 ?_
    refine lv_iload hx hb d_Mod_isSame_3 (lv_at hl 4 rfl) ?_
    refine lv_iload_n hx hb d_Mod_isSame_5 rfl (lv_at hl 3 rfl) ?_
    refine lv_isub hx hb d_Mod_isSame_6 ?_
    refine lv_icmp_ne (tgt := 14) hx hb d_Mod_isSame_7 (by decide) (fun c_7 => ?_) (fun c_7 => ?_)
    · skip
      have c_7 : ¬ (y - x = q - z) := c_7
      refine lv_iconst (v := 0) hx hb d_Mod_isSame_14 (by decide) ?_
      refine lv_istore (lv' := [(5, .int 0), (0, .ref (bd 0)), (1, .int x), (2, .int y), (3, .int z), (4, .int q)]) hx hb d_Mod_isSame_15 hl (by decide) rfl (fun ls hl => ?_)
      refine lv_iconst (v := 0) hx hb d_Mod_isSame_17 (by decide) ?_
      refine lv_istore (lv' := [(6, .int 0), (5, .int 0), (0, .ref (bd 0)), (1, .int x), (2, .int y), (3, .int z), (4, .int q)]) hx hb d_Mod_isSame_18 hl (by decide) rfl (fun ls hl => ?_)
      refine lv_iload hx hb d_Mod_isSame_20 (lv_at hl 1 rfl) ?_
      refine lv_if_eq (tgt := 67) hx hb d_Mod_isSame_22 (by decide) (fun c_22 => ?_) (fun c_22 => ?_)
      · skip
        refine lv_iload hx hb d_Mod_isSame_67 (lv_at hl 1 rfl) ?_
        exact hret H locs st false _ _ hP hD hS ⟨(by first | (simp only [mSame, if_neg c_7, fStop, if_true, if_false, Bool.false_eq_true, ↓reduceIte]; done) | (simp only [mSame, if_neg c_7, fStop, if_true, if_false, Bool.false_eq_true, ↓reduceIte]; with_reducible rfl)), rfl⟩ d_Mod_isSame_69
      · skip
        exact absurd (by decide) c_22
    · skip
      have c_7 : (y - x = q - z) := c_7
      refine lv_iconst (v := 1) hx hb d_Mod_isSame_10 (by decide) ?_
      refine lv_goto (tgt := 15) hx hb d_Mod_isSame_11 (by decide) ?_
      refine lv_istore (lv' := [(5, .int 1), (0, .ref (bd 0)), (1, .int x), (2, .int y), (3, .int z), (4, .int q)]) hx hb d_Mod_isSame_15 hl (by decide) rfl (fun ls hl => ?_)
      refine lv_iconst (v := 0) hx hb d_Mod_isSame_17 (by decide) ?_
      refine lv_istore (lv' := [(6, .int 0), (5, .int 1), (0, .ref (bd 0)), (1, .int x), (2, .int y), (3, .int z), (4, .int q)]) hx hb d_Mod_isSame_18 hl (by decide) rfl (fun ls hl => ?_)
      have loop20 : ∀ (k : Nat) (j : Nat) (H : Heap) (locs : List Loc) (ls : Array Slot), j + k = (y - x).toNatClampNeg → mSame (gTp st) x y z q = eqM (gTp st) x z k j → va_P D vwCl (mdW bd ce st) H → va_D A (mdW bd ce st) → va_S A s.heap H locs → lv_has ls 7 [(6, .int (nI j)), (5, .int 1), (0, .ref (bd 0)), (1, .int x), (2, .int y), (3, .int z), (4, .int q)] → W p l e (rmD 1) s m ([.ref (bd 0), .int x, .int y, .int z, .int q] : List Value).toArray below meth c H locs 0 0 Q (F0 m 20 ls []) := by
        intro k
        induction k with
        | zero =>
          intro j H locs ls hj hF hP hD hS hl
          refine lv_iload hx hb d_Mod_isSame_20 (lv_at hl 1 rfl) ?_
          refine lv_if_eq (tgt := 67) hx hb d_Mod_isSame_22 (by decide) (fun c_22 => ?_) (fun c_22 => ?_)
          · skip
            exact absurd c_22 (by decide)
          · skip
            refine lv_iload hx hb d_Mod_isSame_25 (lv_at hl 0 rfl) ?_
            refine lv_iload_n hx hb d_Mod_isSame_27 rfl (lv_at hl 4 rfl) ?_
            refine lv_iload_n hx hb d_Mod_isSame_28 rfl (lv_at hl 3 rfl) ?_
            refine lv_isub hx hb d_Mod_isSame_29 ?_
            refine lv_icmp_ge (tgt := 67) hx hb d_Mod_isSame_30 (by decide) (fun c_30 => ?_) (fun c_30 => ?_)
            · skip
              have c_30 : (y - x ≤ nI j) := c_30
              refine lv_iload hx hb d_Mod_isSame_67 (lv_at hl 1 rfl) ?_
              exact hret H locs st true _ _ hP hD hS ⟨(by first | (rw [hF]; ((try simp only [eqM]) <;> simp only [eqM, if_pos c_30, fStop, if_true, if_false, Bool.false_eq_true, ↓reduceIte]); done) | (rw [hF]; ((try simp only [eqM]) <;> simp only [eqM, if_pos c_30, fStop, if_true, if_false, Bool.false_eq_true, ↓reduceIte]); with_reducible rfl)), rfl⟩ d_Mod_isSame_69
            · skip
              exact absurd (nI_cyes (by omega) (by have := cl_le (y - x); omega)) c_30
        | succ k ih =>
          intro j H locs ls hj hF hP hD hS hl
          refine lv_iload hx hb d_Mod_isSame_20 (lv_at hl 1 rfl) ?_
          refine lv_if_eq (tgt := 67) hx hb d_Mod_isSame_22 (by decide) (fun c_22 => ?_) (fun c_22 => ?_)
          · skip
            exact absurd c_22 (by decide)
          · skip
            refine lv_iload hx hb d_Mod_isSame_25 (lv_at hl 0 rfl) ?_
            refine lv_iload_n hx hb d_Mod_isSame_27 rfl (lv_at hl 4 rfl) ?_
            refine lv_iload_n hx hb d_Mod_isSame_28 rfl (lv_at hl 3 rfl) ?_
            refine lv_isub hx hb d_Mod_isSame_29 ?_
            refine lv_icmp_ge (tgt := 67) hx hb d_Mod_isSame_30 (by decide) (fun c_30 => ?_) (fun c_30 => ?_)
            · skip
              exact absurd c_30 (nI_cno (by omega))
            · skip
              have c_30 : ¬ (y - x ≤ nI j) := c_30
              refine lv_aload_n hx hb d_Mod_isSame_33 rfl (lv_at hl 2 rfl) ?_
              refine va_get (D := D) (ci := 4) (v := .ref (bd 1)) (C := "HeadDeskModel") (T := F_Mod) (N := 38) hx hb hts a_Mod hown hX.1 hP 0 rfl rfl 1 (by decide) (hts _ m_2_218) (fun _ h9 => h9) rfl d_Mod_isSame_34 ?_
              refine lv_iload_n hx hb d_Mod_isSame_37 rfl (lv_at hl 3 rfl) ?_
              refine lv_iload hx hb d_Mod_isSame_38 (lv_at hl 0 rfl) ?_
              refine lv_iadd hx hb d_Mod_isSame_40 ?_
              refine va_iald hx hb hX.1 hP 1 0 rfl rfl (sm_in hA1 (by omega)) d_Mod_isSame_41 ?_
              refine lv_aload_n hx hb d_Mod_isSame_42 rfl (lv_at hl 2 rfl) ?_
              refine va_get (D := D) (ci := 4) (v := .ref (bd 1)) (C := "HeadDeskModel") (T := F_Mod) (N := 38) hx hb hts a_Mod hown hX.1 hP 0 rfl rfl 1 (by decide) (hts _ m_2_218) (fun _ h9 => h9) rfl d_Mod_isSame_43 ?_
              refine lv_iload_n hx hb d_Mod_isSame_46 rfl (lv_at hl 5 rfl) ?_
              refine lv_iload hx hb d_Mod_isSame_47 (lv_at hl 0 rfl) ?_
              refine lv_iadd hx hb d_Mod_isSame_49 ?_
              refine va_iald hx hb hX.1 hP 1 0 rfl rfl (sm_in hB1 (by rw [← c_7]; omega)) d_Mod_isSame_50 ?_
              refine lv_icmp_ne (tgt := 58) hx hb d_Mod_isSame_51 (by decide) (fun c_51 => ?_) (fun c_51 => ?_)
              · skip
                have c_51 : ¬ ((gTp st) (x + (nI j)).toNatClampNeg = (gTp st) (z + (nI j)).toNatClampNeg) := c_51
                refine lv_iconst (v := 0) hx hb d_Mod_isSame_58 (by decide) ?_
                refine lv_istore (lv' := [(5, .int 0), (6, .int (nI j)), (0, .ref (bd 0)), (1, .int x), (2, .int y), (3, .int z), (4, .int q)]) hx hb d_Mod_isSame_59 hl (by decide) rfl (fun ls hl => ?_)
                refine lv_iinc (v := nI (j + 1)) (lv' := [(6, .int (nI (j + 1))), (5, .int 0), (0, .ref (bd 0)), (1, .int x), (2, .int y), (3, .int z), (4, .int q)]) hx hb d_Mod_isSame_61 hl (k := 1) rfl (by rw [nI_succ]; rfl) (by decide) rfl (fun ls hl => ?_)
                refine lv_goto (tgt := 20) hx hb d_Mod_isSame_64 (by decide) ?_
                refine lv_iload hx hb d_Mod_isSame_20 (lv_at hl 1 rfl) ?_
                refine lv_if_eq (tgt := 67) hx hb d_Mod_isSame_22 (by decide) (fun c_22 => ?_) (fun c_22 => ?_)
                · skip
                  refine lv_iload hx hb d_Mod_isSame_67 (lv_at hl 1 rfl) ?_
                  exact hret H locs st false _ _ hP hD hS ⟨(by first | (rw [hF]; ((try simp only [eqM]) <;> simp only [eqM, if_neg c_30, if_neg c_51, fStop, if_true, if_false, Bool.false_eq_true, ↓reduceIte]); done) | (rw [hF]; ((try simp only [eqM]) <;> simp only [eqM, if_neg c_30, if_neg c_51, fStop, if_true, if_false, Bool.false_eq_true, ↓reduceIte]); with_reducible rfl)), rfl⟩ d_Mod_isSame_69
                · skip
                  exact absurd (by decide) c_22
              · skip
                have c_51 : ((gTp st) (x + (nI j)).toNatClampNeg = (gTp st) (z + (nI j)).toNatClampNeg) := c_51
                refine lv_iconst (v := 1) hx hb d_Mod_isSame_54 (by decide) ?_
                refine lv_goto (tgt := 59) hx hb d_Mod_isSame_55 (by decide) ?_
                refine lv_istore (lv' := [(5, .int 1), (6, .int (nI j)), (0, .ref (bd 0)), (1, .int x), (2, .int y), (3, .int z), (4, .int q)]) hx hb d_Mod_isSame_59 hl (by decide) rfl (fun ls hl => ?_)
                refine lv_iinc (v := nI (j + 1)) (lv' := [(6, .int (nI (j + 1))), (5, .int 1), (0, .ref (bd 0)), (1, .int x), (2, .int y), (3, .int z), (4, .int q)]) hx hb d_Mod_isSame_61 hl (k := 1) rfl (by rw [nI_succ]; rfl) (by decide) rfl (fun ls hl => ?_)
                refine lv_goto (tgt := 20) hx hb d_Mod_isSame_64 (by decide) ?_
                exact ih (j + 1) H locs ls (by omega) (by rw [hF, eqM, if_pos c_51]) hP hD hS (lv_sub hl [0, 1, 2, 3, 4, 5, 6] rfl)
      exact loop20 ((y - x).toNatClampNeg) 0  H locs ls (by omega) (by simp only [mSame, if_pos c_7]) hP hD hS (lv_sub hl [0, 1, 2, 3, 4, 5, 6] rfl)
  rw [hH, hlo] at goal
  exact goal
