variable {l : Launch} {D : va_G} {bd : Nat → Nat} {ce : Nat → ClassId} {adK adV : Nat → Nat} {tF : Nat} {tys : List (ClassId × FieldType)}

set_option maxHeartbeats 4000000 in
set_option maxRecDepth 100000 in
theorem c_Mod_keep (st : MS) (h8 : mB8 st) (x : Int32) : hx_Mv l D (tyM ce) adK adV tF (mdW bd ce) y_Mod_keep w_Mod_keep (rmD 1) [.ref (bd 0), .int x] st (mKeep st x) := by
  refine hx_Mv.of (cc := b_Mod_keep) (maxL := 5) (by decide) rfl (Nat.le_of_ble_eq_true rfl) ?_
  intro p e s m below meth c A Q ls hI hX hA hP hD hS hl hret
  obtain ⟨hx, hb, hml, hown, hts⟩ := id hI
  have hts : ∀ w ∈ aw, w.before ([.ref (bd 0), .int x] : List Value).toArray s = true := fun w h => hts w (List.mem_cons_of_mem _ h)
  have hown : s.vm.findClass "HeadDeskModel" = some m.cls := hown
  have hI : hx_In p s m ([.ref (bd 0), .int x] : List Value).toArray c b_Mod_keep 5 "HeadDeskModel" aw := ⟨hx, hb, hml, hown, hts⟩
  have hP : va_P D vwCl (mdW bd ce st) s.heap := hP
  obtain ⟨H, hH⟩ : ∃ H, H = s.heap := ⟨_, rfl⟩
  obtain ⟨locs, hlo⟩ : ∃ locs : List Loc, locs = [] := ⟨_, rfl⟩
  have hS : va_S A s.heap H locs := by rw [hH, hlo]; exact hS
  have hP : va_P D vwCl (mdW bd ce st) H := by rw [hH]; exact hP
  have hl : lv_has ls 5 [(0, .ref (bd 0)), (1, .int x)] := hl
  have goal : W p l e (rmD 1) s m ([.ref (bd 0), .int x] : List Value).toArray below meth c H locs 0 0 Q (F0 m 0 ls []) := by
    refine lv_aload_n hx hb d_Mod_keep_0 rfl (lv_at hl 0 rfl) ?_
    refine va_get (D := D) (ci := 4) (v := .ref (bd 5)) (C := "HeadDeskModel") (T := F_Mod) (N := 38) hx hb hts a_Mod hown hX.1 hP 0 rfl rfl 31 (by decide) (hts _ m_3_8) (fun _ h9 => h9) rfl d_Mod_keep_1 ?_
    refine lv_iconst (v := 0) hx hb d_Mod_keep_4 (by decide) ?_
    have jn25 : W p l e (rmD 1) s m ([.ref (bd 0), .int x] : List Value).toArray below meth c H locs 0 0 Q (F0 m 25 ls [.int (kv0 st x), .int 0, .ref (bd 5)]) := by
      refine va_iast hx hb hX.1 hP hD hS 5 4 rfl rfl (vp_in_iff.mpr (by decide)) d_Mod_keep_25 (fun H locs hP hD hS => ?_)
      have hP : va_P D vwCl (mdW bd ce (wKp st (upd (gKp st) 0 (kv0 st x)))) H := hP
      have hD : va_D A (mdW bd ce (wKp st (upd (gKp st) 0 (kv0 st x)))) := hD
      obtain ⟨s_25, e_25⟩ : ∃ z : MS, z = wKp st (upd (gKp st) 0 (kv0 st x)) := ⟨_, rfl⟩
      have hP : va_P D vwCl (mdW bd ce s_25) H := by rw [e_25]; exact hP
      have hD : va_D A (mdW bd ce s_25) := by rw [e_25]; exact hD
      refine lv_aload_n hx hb d_Mod_keep_26 rfl (lv_at hl 0 rfl) ?_
      refine va_get (D := D) (ci := 4) (v := .ref (bd 5)) (C := "HeadDeskModel") (T := F_Mod) (N := 38) hx hb hts a_Mod hown hX.1 hP 0 rfl rfl 31 (by decide) (hts _ m_3_8) (fun _ h9 => h9) rfl d_Mod_keep_27 ?_
      refine lv_iconst (v := 1) hx hb d_Mod_keep_30 (by decide) ?_
      refine lv_aload_n hx hb d_Mod_keep_31 rfl (lv_at hl 0 rfl) ?_
      refine va_get (D := D) (ci := 4) (v := .int (gR s_25 6)) (C := "HeadDeskModel") (T := F_Mod) (N := 38) hx hb hts a_Mod hown hX.1 hP 0 rfl rfl 7 (by decide) (hts _ m_2_224) (fun _ h9 => h9) rfl d_Mod_keep_32 ?_
      refine va_iast hx hb hX.1 hP hD hS 5 4 rfl rfl (vp_in_iff.mpr (by decide)) d_Mod_keep_35 (fun H locs hP hD hS => ?_)
      have hP : va_P D vwCl (mdW bd ce (wKp s_25 (upd (gKp s_25) 1 (gR s_25 6)))) H := hP
      have hD : va_D A (mdW bd ce (wKp s_25 (upd (gKp s_25) 1 (gR s_25 6)))) := hD
      obtain ⟨s_35, e_35⟩ : ∃ z : MS, z = wKp s_25 (upd (gKp s_25) 1 (gR s_25 6)) := ⟨_, rfl⟩
      have hP : va_P D vwCl (mdW bd ce s_35) H := by rw [e_35]; exact hP
      have hD : va_D A (mdW bd ce s_35) := by rw [e_35]; exact hD
      refine lv_aload_n hx hb d_Mod_keep_36 rfl (lv_at hl 0 rfl) ?_
      refine va_get (D := D) (ci := 4) (v := .ref (bd 5)) (C := "HeadDeskModel") (T := F_Mod) (N := 38) hx hb hts a_Mod hown hX.1 hP 0 rfl rfl 31 (by decide) (hts _ m_3_8) (fun _ h9 => h9) rfl d_Mod_keep_37 ?_
      refine lv_iconst (v := 2) hx hb d_Mod_keep_40 (by decide) ?_
      refine lv_aload_n hx hb d_Mod_keep_41 rfl (lv_at hl 0 rfl) ?_
      refine va_get (D := D) (ci := 4) (v := .int (gR s_35 7)) (C := "HeadDeskModel") (T := F_Mod) (N := 38) hx hb hts a_Mod hown hX.1 hP 0 rfl rfl 8 (by decide) (hts _ m_2_225) (fun _ h9 => h9) rfl d_Mod_keep_42 ?_
      refine va_iast hx hb hX.1 hP hD hS 5 4 rfl rfl (vp_in_iff.mpr (by decide)) d_Mod_keep_45 (fun H locs hP hD hS => ?_)
      have hP : va_P D vwCl (mdW bd ce (wKp s_35 (upd (gKp s_35) 2 (gR s_35 7)))) H := hP
      have hD : va_D A (mdW bd ce (wKp s_35 (upd (gKp s_35) 2 (gR s_35 7)))) := hD
      obtain ⟨s_45, e_45⟩ : ∃ z : MS, z = wKp s_35 (upd (gKp s_35) 2 (gR s_35 7)) := ⟨_, rfl⟩
      have hP : va_P D vwCl (mdW bd ce s_45) H := by rw [e_45]; exact hP
      have hD : va_D A (mdW bd ce s_45) := by rw [e_45]; exact hD
      refine lv_aload_n hx hb d_Mod_keep_46 rfl (lv_at hl 0 rfl) ?_
      refine va_get (D := D) (ci := 4) (v := .ref (bd 5)) (C := "HeadDeskModel") (T := F_Mod) (N := 38) hx hb hts a_Mod hown hX.1 hP 0 rfl rfl 31 (by decide) (hts _ m_3_8) (fun _ h9 => h9) rfl d_Mod_keep_47 ?_
      refine lv_iconst (v := 3) hx hb d_Mod_keep_50 (by decide) ?_
      refine lv_aload_n hx hb d_Mod_keep_51 rfl (lv_at hl 0 rfl) ?_
      refine va_get (D := D) (ci := 4) (v := .int (gR s_45 8)) (C := "HeadDeskModel") (T := F_Mod) (N := 38) hx hb hts a_Mod hown hX.1 hP 0 rfl rfl 9 (by decide) (hts _ m_2_226) (fun _ h9 => h9) rfl d_Mod_keep_52 ?_
      refine va_iast hx hb hX.1 hP hD hS 5 4 rfl rfl (vp_in_iff.mpr (by decide)) d_Mod_keep_55 (fun H locs hP hD hS => ?_)
      have hP : va_P D vwCl (mdW bd ce (wKp s_45 (upd (gKp s_45) 3 (gR s_45 8)))) H := hP
      have hD : va_D A (mdW bd ce (wKp s_45 (upd (gKp s_45) 3 (gR s_45 8)))) := hD
      obtain ⟨s_55, e_55⟩ : ∃ z : MS, z = wKp s_45 (upd (gKp s_45) 3 (gR s_45 8)) := ⟨_, rfl⟩
      have hP : va_P D vwCl (mdW bd ce s_55) H := by rw [e_55]; exact hP
      have hD : va_D A (mdW bd ce s_55) := by rw [e_55]; exact hD
      refine lv_aload_n hx hb d_Mod_keep_56 rfl (lv_at hl 0 rfl) ?_
      refine va_get (D := D) (ci := 4) (v := .ref (bd 5)) (C := "HeadDeskModel") (T := F_Mod) (N := 38) hx hb hts a_Mod hown hX.1 hP 0 rfl rfl 31 (by decide) (hts _ m_3_8) (fun _ h9 => h9) rfl d_Mod_keep_57 ?_
      refine lv_iconst (v := 4) hx hb d_Mod_keep_60 (by decide) ?_
      have jn76 : W p l e (rmD 1) s m ([.ref (bd 0), .int x] : List Value).toArray below meth c H locs 0 0 Q (F0 m 76 ls [.int (kv4 s_55), .int 4, .ref (bd 5)]) := by
        refine va_iast hx hb hX.1 hP hD hS 5 4 rfl rfl (vp_in_iff.mpr (by decide)) d_Mod_keep_76 (fun H locs hP hD hS => ?_)
        have hP : va_P D vwCl (mdW bd ce (wKp s_55 (upd (gKp s_55) 4 (kv4 s_55)))) H := hP
        have hD : va_D A (mdW bd ce (wKp s_55 (upd (gKp s_55) 4 (kv4 s_55)))) := hD
        obtain ⟨s_76, e_76⟩ : ∃ z : MS, z = wKp s_55 (upd (gKp s_55) 4 (kv4 s_55)) := ⟨_, rfl⟩
        have hP : va_P D vwCl (mdW bd ce s_76) H := by rw [e_76]; exact hP
        have hD : va_D A (mdW bd ce s_76) := by rw [e_76]; exact hD
        refine lv_aload_n hx hb d_Mod_keep_77 rfl (lv_at hl 0 rfl) ?_
        refine va_get (D := D) (ci := 4) (v := .ref (bd 5)) (C := "HeadDeskModel") (T := F_Mod) (N := 38) hx hb hts a_Mod hown hX.1 hP 0 rfl rfl 31 (by decide) (hts _ m_3_8) (fun _ h9 => h9) rfl d_Mod_keep_78 ?_
        refine lv_iconst (v := 5) hx hb d_Mod_keep_81 (by decide) ?_
        have jn98 : W p l e (rmD 1) s m ([.ref (bd 0), .int x] : List Value).toArray below meth c H locs 0 0 Q (F0 m 98 ls [.int (kv5 s_76), .int 5, .ref (bd 5)]) := by
          refine va_iast hx hb hX.1 hP hD hS 5 4 rfl rfl (vp_in_iff.mpr (by decide)) d_Mod_keep_98 (fun H locs hP hD hS => ?_)
          have hP : va_P D vwCl (mdW bd ce (wKp s_76 (upd (gKp s_76) 5 (kv5 s_76)))) H := hP
          have hD : va_D A (mdW bd ce (wKp s_76 (upd (gKp s_76) 5 (kv5 s_76)))) := hD
          obtain ⟨s_98, e_98⟩ : ∃ z : MS, z = wKp s_76 (upd (gKp s_76) 5 (kv5 s_76)) := ⟨_, rfl⟩
          have hP : va_P D vwCl (mdW bd ce s_98) H := by rw [e_98]; exact hP
          have hD : va_D A (mdW bd ce s_98) := by rw [e_98]; exact hD
          refine lv_aload_n hx hb d_Mod_keep_99 rfl (lv_at hl 0 rfl) ?_
          refine va_get (D := D) (ci := 4) (v := .ref (bd 5)) (C := "HeadDeskModel") (T := F_Mod) (N := 38) hx hb hts a_Mod hown hX.1 hP 0 rfl rfl 31 (by decide) (hts _ m_3_8) (fun _ h9 => h9) rfl d_Mod_keep_100 ?_
          refine lv_bipush (v := 6) hx hb d_Mod_keep_103 (by decide) ?_
          have jn117 : W p l e (rmD 1) s m ([.ref (bd 0), .int x] : List Value).toArray below meth c H locs 0 0 Q (F0 m 117 ls [.int (kv6 s_98), .int 6, .ref (bd 5)]) := by
            refine va_iast hx hb hX.1 hP hD hS 5 4 rfl rfl (vp_in_iff.mpr (by decide)) d_Mod_keep_117 (fun H locs hP hD hS => ?_)
            have hP : va_P D vwCl (mdW bd ce (wKp s_98 (upd (gKp s_98) 6 (kv6 s_98)))) H := hP
            have hD : va_D A (mdW bd ce (wKp s_98 (upd (gKp s_98) 6 (kv6 s_98)))) := hD
            obtain ⟨s_117, e_117⟩ : ∃ z : MS, z = wKp s_98 (upd (gKp s_98) 6 (kv6 s_98)) := ⟨_, rfl⟩
            have hP : va_P D vwCl (mdW bd ce s_117) H := by rw [e_117]; exact hP
            have hD : va_D A (mdW bd ce s_117) := by rw [e_117]; exact hD
            refine lv_aload_n hx hb d_Mod_keep_118 rfl (lv_at hl 0 rfl) ?_
            refine lv_iconst (v := 0) hx hb d_Mod_keep_119 (by decide) ?_
            refine va_put (D := D) (ci := 4) (v := .int 0) (ty := .int) (C := "HeadDeskModel") (T := F_Mod) (N := 38) hx hb hts a_Mod t_Mod k_Mod n_Mod hown hX.1 hP hD hS 0 rfl rfl 33 (by decide) (hts _ m_3_10) (fun _ h9 => h9) rfl (by decide +kernel) rfl rfl (Nat.le_of_ble_eq_true rfl) d_Mod_keep_120 (fun H locs hP hD hS => ?_)
            have hP : va_P D vwCl (mdW bd ce (wR s_117 27 0)) H := hP
            have hD : va_D A (mdW bd ce (wR s_117 27 0)) := hD
            obtain ⟨s_120, e_120⟩ : ∃ z : MS, z = wR s_117 27 0 := ⟨_, rfl⟩
            have hP : va_P D vwCl (mdW bd ce s_120) H := by rw [e_120]; exact hP
            have hD : va_D A (mdW bd ce s_120) := by rw [e_120]; exact hD
            refine lv_iconst (v := 0) hx hb d_Mod_keep_123 (by decide) ?_
            refine lv_istore_n (lv' := [(2, .int 0), (0, .ref (bd 0)), (1, .int x)]) hx hb d_Mod_keep_124 rfl hl (by decide) rfl (fun ls hl => ?_)
            have loop125 : ∀ (k : Nat) (j : Nat) (s1 : MS) (H : Heap) (locs : List Loc) (ls : Array Slot), j + k = (gR s1 11).toNatClampNeg → mB8 s1 → (0 ≤ (gR s1 27).toInt ∧ (gR s1 27).toInt ≤ (j : Int)) → mKeep st x = mKp (mKpL k j s1) x → va_P D vwCl (mdW bd ce s1) H → va_D A (mdW bd ce s1) → va_S A s.heap H locs → lv_has ls 5 [(2, .int (nI j)), (0, .ref (bd 0)), (1, .int x)] → W p l e (rmD 1) s m ([.ref (bd 0), .int x] : List Value).toArray below meth c H locs 0 0 Q (F0 m 125 ls []) := by
              intro k
              induction k with
              | zero =>
                intro j s1 H locs ls hj h8 hq hF hP hD hS hl
                refine lv_iload_n hx hb d_Mod_keep_125 rfl (lv_at hl 0 rfl) ?_
                refine lv_aload_n hx hb d_Mod_keep_126 rfl (lv_at hl 1 rfl) ?_
                refine va_get (D := D) (ci := 4) (v := .int (gR s1 11)) (C := "HeadDeskModel") (T := F_Mod) (N := 38) hx hb hts a_Mod hown hX.1 hP 0 rfl rfl 12 (by decide) (hts _ m_2_229) (fun _ h9 => h9) rfl d_Mod_keep_127 ?_
                refine lv_icmp_ge (tgt := 217) hx hb d_Mod_keep_130 (by decide) (fun c_130 => ?_) (fun c_130 => ?_)
                · skip
                  have c_130 : (gR s1 11 ≤ nI j) := c_130
                  refine lv_aload_n hx hb d_Mod_keep_217 rfl (lv_at hl 1 rfl) ?_
                  refine va_get (D := D) (ci := 4) (v := .ref (bd 5)) (C := "HeadDeskModel") (T := F_Mod) (N := 38) hx hb hts a_Mod hown hX.1 hP 0 rfl rfl 31 (by decide) (hts _ m_3_8) (fun _ h9 => h9) rfl d_Mod_keep_218 ?_
                  refine lv_bipush (v := 7) hx hb d_Mod_keep_221 (by decide) ?_
                  refine lv_aload_n hx hb d_Mod_keep_223 rfl (lv_at hl 1 rfl) ?_
                  refine va_get (D := D) (ci := 4) (v := .int (gR s1 27)) (C := "HeadDeskModel") (T := F_Mod) (N := 38) hx hb hts a_Mod hown hX.1 hP 0 rfl rfl 33 (by decide) (hts _ m_3_10) (fun _ h9 => h9) rfl d_Mod_keep_224 ?_
                  refine va_iast hx hb hX.1 hP hD hS 5 4 rfl rfl (vp_in_iff.mpr (by decide)) d_Mod_keep_227 (fun H locs hP hD hS => ?_)
                  have hP : va_P D vwCl (mdW bd ce (wKp s1 (upd (gKp s1) 7 (gR s1 27)))) H := hP
                  have hD : va_D A (mdW bd ce (wKp s1 (upd (gKp s1) 7 (gR s1 27)))) := hD
                  obtain ⟨s_227, e_227⟩ : ∃ z : MS, z = wKp s1 (upd (gKp s1) 7 (gR s1 27)) := ⟨_, rfl⟩
                  have hP : va_P D vwCl (mdW bd ce s_227) H := by rw [e_227]; exact hP
                  have hD : va_D A (mdW bd ce s_227) := by rw [e_227]; exact hD
                  refine lv_aload_n hx hb d_Mod_keep_228 rfl (lv_at hl 1 rfl) ?_
                  refine va_get (D := D) (ci := 4) (v := .ref (bd 5)) (C := "HeadDeskModel") (T := F_Mod) (N := 38) hx hb hts a_Mod hown hX.1 hP 0 rfl rfl 31 (by decide) (hts _ m_3_8) (fun _ h9 => h9) rfl d_Mod_keep_229 ?_
                  refine lv_bipush (v := 8) hx hb d_Mod_keep_232 (by decide) ?_
                  refine lv_aload_n hx hb d_Mod_keep_234 rfl (lv_at hl 1 rfl) ?_
                  refine va_get (D := D) (ci := 4) (v := .int (gR s_227 19)) (C := "HeadDeskModel") (T := F_Mod) (N := 38) hx hb hts a_Mod hown hX.1 hP 0 rfl rfl 21 (by decide) (hts _ m_2_238) (fun _ h9 => h9) rfl d_Mod_keep_235 ?_
                  refine va_iast hx hb hX.1 hP hD hS 5 4 rfl rfl (vp_in_iff.mpr (by decide)) d_Mod_keep_238 (fun H locs hP hD hS => ?_)
                  have hP : va_P D vwCl (mdW bd ce (wKp s_227 (upd (gKp s_227) 8 (gR s_227 19)))) H := hP
                  have hD : va_D A (mdW bd ce (wKp s_227 (upd (gKp s_227) 8 (gR s_227 19)))) := hD
                  obtain ⟨s_238, e_238⟩ : ∃ z : MS, z = wKp s_227 (upd (gKp s_227) 8 (gR s_227 19)) := ⟨_, rfl⟩
                  have hP : va_P D vwCl (mdW bd ce s_238) H := by rw [e_238]; exact hP
                  have hD : va_D A (mdW bd ce s_238) := by rw [e_238]; exact hD
                  refine lv_aload_n hx hb d_Mod_keep_239 rfl (lv_at hl 1 rfl) ?_
                  refine va_get (D := D) (ci := 4) (v := .ref (bd 5)) (C := "HeadDeskModel") (T := F_Mod) (N := 38) hx hb hts a_Mod hown hX.1 hP 0 rfl rfl 31 (by decide) (hts _ m_3_8) (fun _ h9 => h9) rfl d_Mod_keep_240 ?_
                  refine lv_bipush (v := 9) hx hb d_Mod_keep_243 (by decide) ?_
                  refine lv_aload_n hx hb d_Mod_keep_245 rfl (lv_at hl 1 rfl) ?_
                  refine va_get (D := D) (ci := 4) (v := .int (gR s_238 20)) (C := "HeadDeskModel") (T := F_Mod) (N := 38) hx hb hts a_Mod hown hX.1 hP 0 rfl rfl 22 (by decide) (hts _ m_2_239) (fun _ h9 => h9) rfl d_Mod_keep_246 ?_
                  refine va_iast hx hb hX.1 hP hD hS 5 4 rfl rfl (vp_in_iff.mpr (by decide)) d_Mod_keep_249 (fun H locs hP hD hS => ?_)
                  have hP : va_P D vwCl (mdW bd ce (wKp s_238 (upd (gKp s_238) 9 (gR s_238 20)))) H := hP
                  have hD : va_D A (mdW bd ce (wKp s_238 (upd (gKp s_238) 9 (gR s_238 20)))) := hD
                  obtain ⟨s_249, e_249⟩ : ∃ z : MS, z = wKp s_238 (upd (gKp s_238) 9 (gR s_238 20)) := ⟨_, rfl⟩
                  have hP : va_P D vwCl (mdW bd ce s_249) H := by rw [e_249]; exact hP
                  have hD : va_D A (mdW bd ce s_249) := by rw [e_249]; exact hD
                  refine lv_aload_n hx hb d_Mod_keep_250 rfl (lv_at hl 1 rfl) ?_
                  refine va_get (D := D) (ci := 4) (v := .ref (bd 5)) (C := "HeadDeskModel") (T := F_Mod) (N := 38) hx hb hts a_Mod hown hX.1 hP 0 rfl rfl 31 (by decide) (hts _ m_3_8) (fun _ h9 => h9) rfl d_Mod_keep_251 ?_
                  refine lv_bipush (v := 10) hx hb d_Mod_keep_254 (by decide) ?_
                  have jn275 : W p l e (rmD 1) s m ([.ref (bd 0), .int x] : List Value).toArray below meth c H locs 0 0 Q (F0 m 275 ls [.int (kv10 s_249), .int 10, .ref (bd 5)]) := by
                    refine va_iast hx hb hX.1 hP hD hS 5 4 rfl rfl (vp_in_iff.mpr (by decide)) d_Mod_keep_275 (fun H locs hP hD hS => ?_)
                    have hP : va_P D vwCl (mdW bd ce (wKp s_249 (upd (gKp s_249) 10 (kv10 s_249)))) H := hP
                    have hD : va_D A (mdW bd ce (wKp s_249 (upd (gKp s_249) 10 (kv10 s_249)))) := hD
                    obtain ⟨s_275, e_275⟩ : ∃ z : MS, z = wKp s_249 (upd (gKp s_249) 10 (kv10 s_249)) := ⟨_, rfl⟩
                    have hP : va_P D vwCl (mdW bd ce s_275) H := by rw [e_275]; exact hP
                    have hD : va_D A (mdW bd ce s_275) := by rw [e_275]; exact hD
                    refine lv_aload_n hx hb d_Mod_keep_276 rfl (lv_at hl 1 rfl) ?_
                    refine va_get (D := D) (ci := 4) (v := .ref (bd 5)) (C := "HeadDeskModel") (T := F_Mod) (N := 38) hx hb hts a_Mod hown hX.1 hP 0 rfl rfl 31 (by decide) (hts _ m_3_8) (fun _ h9 => h9) rfl d_Mod_keep_277 ?_
                    refine lv_bipush (v := 11) hx hb d_Mod_keep_280 (by decide) ?_
                    have jn294 : W p l e (rmD 1) s m ([.ref (bd 0), .int x] : List Value).toArray below meth c H locs 0 0 Q (F0 m 294 ls [.int (kv11 s_275), .int 11, .ref (bd 5)]) := by
                      refine va_iast hx hb hX.1 hP hD hS 5 4 rfl rfl (vp_in_iff.mpr (by decide)) d_Mod_keep_294 (fun H locs hP hD hS => ?_)
                      have hP : va_P D vwCl (mdW bd ce (wKp s_275 (upd (gKp s_275) 11 (kv11 s_275)))) H := hP
                      have hD : va_D A (mdW bd ce (wKp s_275 (upd (gKp s_275) 11 (kv11 s_275)))) := hD
                      obtain ⟨s_294, e_294⟩ : ∃ z : MS, z = wKp s_275 (upd (gKp s_275) 11 (kv11 s_275)) := ⟨_, rfl⟩
                      have hP : va_P D vwCl (mdW bd ce s_294) H := by rw [e_294]; exact hP
                      have hD : va_D A (mdW bd ce s_294) := by rw [e_294]; exact hD
                      refine lv_aload_n hx hb d_Mod_keep_295 rfl (lv_at hl 1 rfl) ?_
                      refine va_get (D := D) (ci := 4) (v := .ref (bd 5)) (C := "HeadDeskModel") (T := F_Mod) (N := 38) hx hb hts a_Mod hown hX.1 hP 0 rfl rfl 31 (by decide) (hts _ m_3_8) (fun _ h9 => h9) rfl d_Mod_keep_296 ?_
                      refine lv_bipush (v := 12) hx hb d_Mod_keep_299 (by decide) ?_
                      have jn316 : W p l e (rmD 1) s m ([.ref (bd 0), .int x] : List Value).toArray below meth c H locs 0 0 Q (F0 m 316 ls [.int (kv12 s_294 x), .int 12, .ref (bd 5)]) := by
                        refine va_iast hx hb hX.1 hP hD hS 5 4 rfl rfl (vp_in_iff.mpr (by decide)) d_Mod_keep_316 (fun H locs hP hD hS => ?_)
                        have hP : va_P D vwCl (mdW bd ce (wKp s_294 (upd (gKp s_294) 12 (kv12 s_294 x)))) H := hP
                        have hD : va_D A (mdW bd ce (wKp s_294 (upd (gKp s_294) 12 (kv12 s_294 x)))) := hD
                        obtain ⟨s_316, e_316⟩ : ∃ z : MS, z = wKp s_294 (upd (gKp s_294) 12 (kv12 s_294 x)) := ⟨_, rfl⟩
                        have hP : va_P D vwCl (mdW bd ce s_316) H := by rw [e_316]; exact hP
                        have hD : va_D A (mdW bd ce s_316) := by rw [e_316]; exact hD
                        refine lv_aload_n hx hb d_Mod_keep_317 rfl (lv_at hl 1 rfl) ?_
                        refine va_get (D := D) (ci := 4) (v := .ref (bd 5)) (C := "HeadDeskModel") (T := F_Mod) (N := 38) hx hb hts a_Mod hown hX.1 hP 0 rfl rfl 31 (by decide) (hts _ m_3_8) (fun _ h9 => h9) rfl d_Mod_keep_318 ?_
                        refine lv_bipush (v := 13) hx hb d_Mod_keep_321 (by decide) ?_
                        refine lv_aload_n hx hb d_Mod_keep_323 rfl (lv_at hl 1 rfl) ?_
                        refine va_get (D := D) (ci := 4) (v := .int (gR s_316 13)) (C := "HeadDeskModel") (T := F_Mod) (N := 38) hx hb hts a_Mod hown hX.1 hP 0 rfl rfl 14 (by decide) (hts _ m_2_231) (fun _ h9 => h9) rfl d_Mod_keep_324 ?_
                        refine va_iast hx hb hX.1 hP hD hS 5 4 rfl rfl (vp_in_iff.mpr (by decide)) d_Mod_keep_327 (fun H locs hP hD hS => ?_)
                        have hP : va_P D vwCl (mdW bd ce (wKp s_316 (upd (gKp s_316) 13 (gR s_316 13)))) H := hP
                        have hD : va_D A (mdW bd ce (wKp s_316 (upd (gKp s_316) 13 (gR s_316 13)))) := hD
                        obtain ⟨s_327, e_327⟩ : ∃ z : MS, z = wKp s_316 (upd (gKp s_316) 13 (gR s_316 13)) := ⟨_, rfl⟩
                        have hP : va_P D vwCl (mdW bd ce s_327) H := by rw [e_327]; exact hP
                        have hD : va_D A (mdW bd ce s_327) := by rw [e_327]; exact hD
                        refine lv_aload_n hx hb d_Mod_keep_328 rfl (lv_at hl 1 rfl) ?_
                        refine va_get (D := D) (ci := 4) (v := .ref (bd 5)) (C := "HeadDeskModel") (T := F_Mod) (N := 38) hx hb hts a_Mod hown hX.1 hP 0 rfl rfl 31 (by decide) (hts _ m_3_8) (fun _ h9 => h9) rfl d_Mod_keep_329 ?_
                        refine lv_bipush (v := 14) hx hb d_Mod_keep_332 (by decide) ?_
                        refine lv_aload_n hx hb d_Mod_keep_334 rfl (lv_at hl 1 rfl) ?_
                        refine va_get (D := D) (ci := 4) (v := .int (gR s_327 14)) (C := "HeadDeskModel") (T := F_Mod) (N := 38) hx hb hts a_Mod hown hX.1 hP 0 rfl rfl 15 (by decide) (hts _ m_2_232) (fun _ h9 => h9) rfl d_Mod_keep_335 ?_
                        refine va_iast hx hb hX.1 hP hD hS 5 4 rfl rfl (vp_in_iff.mpr (by decide)) d_Mod_keep_338 (fun H locs hP hD hS => ?_)
                        have hP : va_P D vwCl (mdW bd ce (wKp s_327 (upd (gKp s_327) 14 (gR s_327 14)))) H := hP
                        have hD : va_D A (mdW bd ce (wKp s_327 (upd (gKp s_327) 14 (gR s_327 14)))) := hD
                        obtain ⟨s_338, e_338⟩ : ∃ z : MS, z = wKp s_327 (upd (gKp s_327) 14 (gR s_327 14)) := ⟨_, rfl⟩
                        have hP : va_P D vwCl (mdW bd ce s_338) H := by rw [e_338]; exact hP
                        have hD : va_D A (mdW bd ce s_338) := by rw [e_338]; exact hD
                        refine lv_aload_n hx hb d_Mod_keep_339 rfl (lv_at hl 1 rfl) ?_
                        refine va_get (D := D) (ci := 4) (v := .ref (bd 5)) (C := "HeadDeskModel") (T := F_Mod) (N := 38) hx hb hts a_Mod hown hX.1 hP 0 rfl rfl 31 (by decide) (hts _ m_3_8) (fun _ h9 => h9) rfl d_Mod_keep_340 ?_
                        refine lv_bipush (v := 15) hx hb d_Mod_keep_343 (by decide) ?_
                        have jn357 : W p l e (rmD 1) s m ([.ref (bd 0), .int x] : List Value).toArray below meth c H locs 0 0 Q (F0 m 357 ls [.int (kv15 s_338), .int 15, .ref (bd 5)]) := by
                          refine va_iast hx hb hX.1 hP hD hS 5 4 rfl rfl (vp_in_iff.mpr (by decide)) d_Mod_keep_357 (fun H locs hP hD hS => ?_)
                          have hP : va_P D vwCl (mdW bd ce (wKp s_338 (upd (gKp s_338) 15 (kv15 s_338)))) H := hP
                          have hD : va_D A (mdW bd ce (wKp s_338 (upd (gKp s_338) 15 (kv15 s_338)))) := hD
                          obtain ⟨s_357, e_357⟩ : ∃ z : MS, z = wKp s_338 (upd (gKp s_338) 15 (kv15 s_338)) := ⟨_, rfl⟩
                          have hP : va_P D vwCl (mdW bd ce s_357) H := by rw [e_357]; exact hP
                          have hD : va_D A (mdW bd ce s_357) := by rw [e_357]; exact hD
                          refine lv_aload_n hx hb d_Mod_keep_358 rfl (lv_at hl 1 rfl) ?_
                          refine va_get (D := D) (ci := 4) (v := .ref (bd 5)) (C := "HeadDeskModel") (T := F_Mod) (N := 38) hx hb hts a_Mod hown hX.1 hP 0 rfl rfl 31 (by decide) (hts _ m_3_8) (fun _ h9 => h9) rfl d_Mod_keep_359 ?_
                          refine lv_bipush (v := 16) hx hb d_Mod_keep_362 (by decide) ?_
                          refine lv_aload_n hx hb d_Mod_keep_364 rfl (lv_at hl 1 rfl) ?_
                          refine va_get (D := D) (ci := 4) (v := .int (gR s_357 22)) (C := "HeadDeskModel") (T := F_Mod) (N := 38) hx hb hts a_Mod hown hX.1 hP 0 rfl rfl 24 (by decide) (hts _ m_3_1) (fun _ h9 => h9) rfl d_Mod_keep_365 ?_
                          refine va_iast hx hb hX.1 hP hD hS 5 4 rfl rfl (vp_in_iff.mpr (by decide)) d_Mod_keep_368 (fun H locs hP hD hS => ?_)
                          have hP : va_P D vwCl (mdW bd ce (wKp s_357 (upd (gKp s_357) 16 (gR s_357 22)))) H := hP
                          have hD : va_D A (mdW bd ce (wKp s_357 (upd (gKp s_357) 16 (gR s_357 22)))) := hD
                          obtain ⟨s_368, e_368⟩ : ∃ z : MS, z = wKp s_357 (upd (gKp s_357) 16 (gR s_357 22)) := ⟨_, rfl⟩
                          have hP : va_P D vwCl (mdW bd ce s_368) H := by rw [e_368]; exact hP
                          have hD : va_D A (mdW bd ce s_368) := by rw [e_368]; exact hD
                          refine lv_aload_n hx hb d_Mod_keep_369 rfl (lv_at hl 1 rfl) ?_
                          refine va_get (D := D) (ci := 4) (v := .ref (bd 5)) (C := "HeadDeskModel") (T := F_Mod) (N := 38) hx hb hts a_Mod hown hX.1 hP 0 rfl rfl 31 (by decide) (hts _ m_3_8) (fun _ h9 => h9) rfl d_Mod_keep_370 ?_
                          refine lv_bipush (v := 17) hx hb d_Mod_keep_373 (by decide) ?_
                          refine lv_aload_n hx hb d_Mod_keep_375 rfl (lv_at hl 1 rfl) ?_
                          refine va_get (D := D) (ci := 4) (v := .int (gR s_368 23)) (C := "HeadDeskModel") (T := F_Mod) (N := 38) hx hb hts a_Mod hown hX.1 hP 0 rfl rfl 25 (by decide) (hts _ m_3_2) (fun _ h9 => h9) rfl d_Mod_keep_376 ?_
                          refine va_iast hx hb hX.1 hP hD hS 5 4 rfl rfl (vp_in_iff.mpr (by decide)) d_Mod_keep_379 (fun H locs hP hD hS => ?_)
                          have hP : va_P D vwCl (mdW bd ce (wKp s_368 (upd (gKp s_368) 17 (gR s_368 23)))) H := hP
                          have hD : va_D A (mdW bd ce (wKp s_368 (upd (gKp s_368) 17 (gR s_368 23)))) := hD
                          obtain ⟨s_379, e_379⟩ : ∃ z : MS, z = wKp s_368 (upd (gKp s_368) 17 (gR s_368 23)) := ⟨_, rfl⟩
                          have hP : va_P D vwCl (mdW bd ce s_379) H := by rw [e_379]; exact hP
                          have hD : va_D A (mdW bd ce s_379) := by rw [e_379]; exact hD
                          exact hret H locs s_379 _ _ hP hD hS (by rw [hF]; (try simp only [mKpL, if_pos c_130, ← e_227, ← e_238, ← e_249, ← e_275, ← e_294, ← e_316, ← e_327, ← e_338, ← e_357, ← e_368, ← e_379, if_true, if_false, Bool.false_eq_true, ↓reduceIte]) <;> (try simp only [mKp, kS, if_pos c_130, ← e_227, ← e_238, ← e_249, ← e_275, ← e_294, ← e_316, ← e_327, ← e_338, ← e_357, ← e_368, ← e_379, if_true, if_false, Bool.false_eq_true, ↓reduceIte]) <;> (try simp only [mKq, kS, if_pos c_130, ← e_227, ← e_238, ← e_249, ← e_275, ← e_294, ← e_316, ← e_327, ← e_338, ← e_357, ← e_368, ← e_379, if_true, if_false, Bool.false_eq_true, ↓reduceIte]) <;> (try simp only [mKr, kS, if_pos c_130, ← e_227, ← e_238, ← e_249, ← e_275, ← e_294, ← e_316, ← e_327, ← e_338, ← e_357, ← e_368, ← e_379, if_true, if_false, Bool.false_eq_true, ↓reduceIte]) <;> (try simp only [mKs, kS, if_pos c_130, ← e_227, ← e_238, ← e_249, ← e_275, ← e_294, ← e_316, ← e_327, ← e_338, ← e_357, ← e_368, ← e_379, if_true, if_false, Bool.false_eq_true, ↓reduceIte]) <;> (try simp only [mKt, kS, if_pos c_130, ← e_227, ← e_238, ← e_249, ← e_275, ← e_294, ← e_316, ← e_327, ← e_338, ← e_357, ← e_368, ← e_379, if_true, if_false, Bool.false_eq_true, ↓reduceIte]) <;> (try simp only [mKu, kS, if_pos c_130, ← e_227, ← e_238, ← e_249, ← e_275, ← e_294, ← e_316, ← e_327, ← e_338, ← e_357, ← e_368, ← e_379, if_true, if_false, Bool.false_eq_true, ↓reduceIte]) <;> (try simp only [mKv, kS, if_pos c_130, ← e_227, ← e_238, ← e_249, ← e_275, ← e_294, ← e_316, ← e_327, ← e_338, ← e_357, ← e_368, ← e_379, if_true, if_false, Bool.false_eq_true, ↓reduceIte]) <;> (try simp only [mKw, kS, if_pos c_130, ← e_227, ← e_238, ← e_249, ← e_275, ← e_294, ← e_316, ← e_327, ← e_338, ← e_357, ← e_368, ← e_379, if_true, if_false, Bool.false_eq_true, ↓reduceIte]) <;> (try simp only [mKx, kS, if_pos c_130, ← e_227, ← e_238, ← e_249, ← e_275, ← e_294, ← e_316, ← e_327, ← e_338, ← e_357, ← e_368, ← e_379, if_true, if_false, Bool.false_eq_true, ↓reduceIte]) <;> (try simp only [mKy, kS, if_pos c_130, ← e_227, ← e_238, ← e_249, ← e_275, ← e_294, ← e_316, ← e_327, ← e_338, ← e_357, ← e_368, ← e_379, if_true, if_false, Bool.false_eq_true, ↓reduceIte]) <;> (try simp only [mKz, kS, if_pos c_130, ← e_227, ← e_238, ← e_249, ← e_275, ← e_294, ← e_316, ← e_327, ← e_338, ← e_357, ← e_368, ← e_379, if_true, if_false, Bool.false_eq_true, ↓reduceIte]) <;> (first | done | with_reducible rfl | rw [e_379])) d_Mod_keep_380
                        refine lv_aload_n hx hb d_Mod_keep_345 rfl (lv_at hl 1 rfl) ?_
                        refine va_get (D := D) (ci := 4) (v := .int (gR s_338 24)) (C := "HeadDeskModel") (T := F_Mod) (N := 38) hx hb hts a_Mod hown hX.1 hP 0 rfl rfl 26 (by decide) (hts _ m_3_3) (fun _ h9 => h9) rfl d_Mod_keep_346 ?_
                        refine lv_if_eq (tgt := 356) hx hb d_Mod_keep_349 (by decide) (fun c_349 => ?_) (fun c_349 => ?_)
                        · skip
                          have c_349 : (gR s_338 24 = 0) := c_349
                          refine lv_iconst (v := 0) hx hb d_Mod_keep_356 (by decide) ?_
                          refine hx_top (v := kv15 s_338) (by simp only [kv15, if_pos c_130, if_pos c_349, ↓reduceIte]) ?_
                          exact jn357
                        · skip
                          have c_349 : ¬ (gR s_338 24 = 0) := c_349
                          refine lv_iconst (v := 1) hx hb d_Mod_keep_352 (by decide) ?_
                          refine lv_goto (tgt := 357) hx hb d_Mod_keep_353 (by decide) ?_
                          refine hx_top (v := kv15 s_338) (by simp only [kv15, if_pos c_130, if_neg c_349, ↓reduceIte]) ?_
                          exact jn357
                      refine lv_iload_n hx hb d_Mod_keep_301 rfl (lv_at hl 2 rfl) ?_
                      refine lv_if_eq (tgt := 312) hx hb d_Mod_keep_302 (by decide) (fun c_302 => ?_) (fun c_302 => ?_)
                      · skip
                        have c_302 : (x = 0) := c_302
                        refine lv_aload_n hx hb d_Mod_keep_312 rfl (lv_at hl 1 rfl) ?_
                        refine va_get (D := D) (ci := 4) (v := .int (gR s_294 21)) (C := "HeadDeskModel") (T := F_Mod) (N := 38) hx hb hts a_Mod hown hX.1 hP 0 rfl rfl 23 (by decide) (hts _ m_3_0) (fun _ h9 => h9) rfl d_Mod_keep_313 ?_
                        refine hx_top (v := kv12 s_294 x) (by simp only [kv12, if_pos c_130, if_pos c_302, ↓reduceIte]) ?_
                        exact jn316
                      · skip
                        have c_302 : ¬ (x = 0) := c_302
                        refine lv_aload_n hx hb d_Mod_keep_305 rfl (lv_at hl 1 rfl) ?_
                        refine va_get (D := D) (ci := 4) (v := .int (gR s_294 12)) (C := "HeadDeskModel") (T := F_Mod) (N := 38) hx hb hts a_Mod hown hX.1 hP 0 rfl rfl 13 (by decide) (hts _ m_2_230) (fun _ h9 => h9) rfl d_Mod_keep_306 ?_
                        refine lv_goto (tgt := 316) hx hb d_Mod_keep_309 (by decide) ?_
                        refine hx_top (v := kv12 s_294 x) (by simp only [kv12, if_pos c_130, if_neg c_302, ↓reduceIte]) ?_
                        exact jn316
                    refine lv_aload_n hx hb d_Mod_keep_282 rfl (lv_at hl 1 rfl) ?_
                    refine va_get (D := D) (ci := 4) (v := .int (gR s_275 18)) (C := "HeadDeskModel") (T := F_Mod) (N := 38) hx hb hts a_Mod hown hX.1 hP 0 rfl rfl 19 (by decide) (hts _ m_2_236) (fun _ h9 => h9) rfl d_Mod_keep_283 ?_
                    refine lv_if_eq (tgt := 293) hx hb d_Mod_keep_286 (by decide) (fun c_286 => ?_) (fun c_286 => ?_)
                    · skip
                      have c_286 : (gR s_275 18 = 0) := c_286
                      refine lv_iconst (v := 0) hx hb d_Mod_keep_293 (by decide) ?_
                      refine hx_top (v := kv11 s_275) (by simp only [kv11, if_pos c_130, if_pos c_286, ↓reduceIte]) ?_
                      exact jn294
                    · skip
                      have c_286 : ¬ (gR s_275 18 = 0) := c_286
                      refine lv_iconst (v := 1) hx hb d_Mod_keep_289 (by decide) ?_
                      refine lv_goto (tgt := 294) hx hb d_Mod_keep_290 (by decide) ?_
                      refine hx_top (v := kv11 s_275) (by simp only [kv11, if_pos c_130, if_neg c_286, ↓reduceIte]) ?_
                      exact jn294
                  refine lv_aload_n hx hb d_Mod_keep_256 rfl (lv_at hl 1 rfl) ?_
                  refine va_get (D := D) (ci := 4) (v := .int (gR s_249 17)) (C := "HeadDeskModel") (T := F_Mod) (N := 38) hx hb hts a_Mod hown hX.1 hP 0 rfl rfl 18 (by decide) (hts _ m_2_235) (fun _ h9 => h9) rfl d_Mod_keep_257 ?_
                  refine lv_if_ne (tgt := 270) hx hb d_Mod_keep_260 (by decide) (fun c_260 => ?_) (fun c_260 => ?_)
                  · skip
                    have c_260 : ¬ (gR s_249 17 = 0) := c_260
                    refine lv_iconst (v := 1) hx hb d_Mod_keep_270 (by decide) ?_
                    refine lv_goto (tgt := 275) hx hb d_Mod_keep_271 (by decide) ?_
                    refine hx_top (v := kv10 s_249) (by simp only [kv10, if_pos c_130, if_neg c_260, ↓reduceIte]) ?_
                    exact jn275
                  · skip
                    have c_260 : (gR s_249 17 = 0) := c_260
                    refine lv_aload_n hx hb d_Mod_keep_263 rfl (lv_at hl 1 rfl) ?_
                    refine va_get (D := D) (ci := 4) (v := .int (gR s_249 25)) (C := "HeadDeskModel") (T := F_Mod) (N := 38) hx hb hts a_Mod hown hX.1 hP 0 rfl rfl 27 (by decide) (hts _ m_3_4) (fun _ h9 => h9) rfl d_Mod_keep_264 ?_
                    refine lv_if_eq (tgt := 274) hx hb d_Mod_keep_267 (by decide) (fun c_267 => ?_) (fun c_267 => ?_)
                    · skip
                      have c_267 : (gR s_249 25 = 0) := c_267
                      refine lv_iconst (v := 0) hx hb d_Mod_keep_274 (by decide) ?_
                      refine hx_top (v := kv10 s_249) (by simp only [kv10, if_pos c_130, if_pos c_260, if_pos c_267, ↓reduceIte]) ?_
                      exact jn275
                    · skip
                      have c_267 : ¬ (gR s_249 25 = 0) := c_267
                      refine lv_iconst (v := 1) hx hb d_Mod_keep_270 (by decide) ?_
                      refine lv_goto (tgt := 275) hx hb d_Mod_keep_271 (by decide) ?_
                      refine hx_top (v := kv10 s_249) (by simp only [kv10, if_pos c_130, if_pos c_260, if_neg c_267, ↓reduceIte]) ?_
                      exact jn275
                · skip
                  exact absurd (nI_cyes (by omega) (by have := cl_le (gR s1 11); omega)) c_130
              | succ k ih =>
                intro j s1 H locs ls hj h8 hq hF hP hD hS hl
                have hb8 := kb h8 hq (show j < (gR s1 11).toNatClampNeg by omega)
                refine lv_iload_n hx hb d_Mod_keep_125 rfl (lv_at hl 0 rfl) ?_
                refine lv_aload_n hx hb d_Mod_keep_126 rfl (lv_at hl 1 rfl) ?_
                refine va_get (D := D) (ci := 4) (v := .int (gR s1 11)) (C := "HeadDeskModel") (T := F_Mod) (N := 38) hx hb hts a_Mod hown hX.1 hP 0 rfl rfl 12 (by decide) (hts _ m_2_229) (fun _ h9 => h9) rfl d_Mod_keep_127 ?_
                refine lv_icmp_ge (tgt := 217) hx hb d_Mod_keep_130 (by decide) (fun c_130 => ?_) (fun c_130 => ?_)
                · skip
                  exact absurd c_130 (nI_cno (by omega))
                · skip
                  have c_130 : ¬ (gR s1 11 ≤ nI j) := c_130
                  refine lv_iconst (v := 0) hx hb d_Mod_keep_133 (by decide) ?_
                  refine lv_istore_n (lv' := [(3, .int 0), (2, .int (nI j)), (0, .ref (bd 0)), (1, .int x)]) hx hb d_Mod_keep_134 rfl hl (by decide) rfl (fun ls hl => ?_)
                  refine lv_iconst (v := 0) hx hb d_Mod_keep_135 (by decide) ?_
                  refine lv_istore (lv' := [(4, .int 0), (3, .int 0), (2, .int (nI j)), (0, .ref (bd 0)), (1, .int x)]) hx hb d_Mod_keep_136 hl (by decide) rfl (fun ls hl => ?_)
                  obtain ⟨tf, e_tf⟩ : ∃ z : Bool, z = thL s1 j (gR s1 27).toNatClampNeg 0 false := ⟨_, rfl⟩
                  have k179 : ∀ (H : Heap) (locs : List Loc) (ls : Array Slot), va_P D vwCl (mdW bd ce s1) H → va_D A (mdW bd ce s1) → va_S A s.heap H locs → lv_has ls 5 [(3, .int (bI tf)), (2, .int (nI j)), (0, .ref (bd 0)), (1, .int x)] → W p l e (rmD 1) s m ([.ref (bd 0), .int x] : List Value).toArray below meth c H locs 0 0 Q (F0 m 179 ls []) := by
                    intro H locs ls hP hD hS hl
                    refine lv_iload_n hx hb d_Mod_keep_179 rfl (lv_at hl 0 rfl) ?_
                    refine lv_if_eq (tgt := 186) hx hb d_Mod_keep_180 (by decide) (fun c_180 => ?_) (fun c_180 => ?_)
                    · skip
                      have c_180 : tf = false := bI_0 c_180
                      refine lv_aload_n hx hb d_Mod_keep_186 rfl (lv_at hl 2 rfl) ?_
                      refine va_get (D := D) (ci := 4) (v := .ref (bd 6)) (C := "HeadDeskModel") (T := F_Mod) (N := 38) hx hb hts a_Mod hown hX.1 hP 0 rfl rfl 32 (by decide) (hts _ m_3_9) (fun _ h9 => h9) rfl d_Mod_keep_187 ?_
                      refine lv_aload_n hx hb d_Mod_keep_190 rfl (lv_at hl 2 rfl) ?_
                      refine va_get (D := D) (ci := 4) (v := .int (gR s1 27)) (C := "HeadDeskModel") (T := F_Mod) (N := 38) hx hb hts a_Mod hown hX.1 hP 0 rfl rfl 33 (by decide) (hts _ m_3_10) (fun _ h9 => h9) rfl d_Mod_keep_191 ?_
                      refine lv_aload_n hx hb d_Mod_keep_194 rfl (lv_at hl 2 rfl) ?_
                      refine va_get (D := D) (ci := 4) (v := .ref (bd 2)) (C := "HeadDeskModel") (T := F_Mod) (N := 38) hx hb hts a_Mod hown hX.1 hP 0 rfl rfl 20 (by decide) (hts _ m_2_237) (fun _ h9 => h9) rfl d_Mod_keep_195 ?_
                      refine lv_iload_n hx hb d_Mod_keep_198 rfl (lv_at hl 1 rfl) ?_
                      refine va_iald hx hb hX.1 hP 2 1 rfl rfl (vp_in_nI hb8.1 (by decide)) d_Mod_keep_199 ?_
                      refine hx_top (v := (gMt s1) j) (by first | rfl | (rw [nI_clamp (by omega)])) ?_
                      refine va_iast hx hb hX.1 hP hD hS 6 5 rfl rfl hb8.2.2 d_Mod_keep_200 (fun H locs hP hD hS => ?_)
                      have hP : va_P D vwCl (mdW bd ce (wKm s1 (upd (gKm s1) (gR s1 27).toNatClampNeg ((gMt s1) j)))) H := hP
                      have hD : va_D A (mdW bd ce (wKm s1 (upd (gKm s1) (gR s1 27).toNatClampNeg ((gMt s1) j)))) := hD
                      obtain ⟨s_200, e_200⟩ : ∃ z : MS, z = wKm s1 (upd (gKm s1) (gR s1 27).toNatClampNeg ((gMt s1) j)) := ⟨_, rfl⟩
                      have hP : va_P D vwCl (mdW bd ce s_200) H := by rw [e_200]; exact hP
                      have hD : va_D A (mdW bd ce s_200) := by rw [e_200]; exact hD
                      refine lv_aload_n hx hb d_Mod_keep_201 rfl (lv_at hl 2 rfl) ?_
                      refine lv_dup hx hb d_Mod_keep_202 rfl ?_
                      refine va_get (D := D) (ci := 4) (v := .int (gR s_200 27)) (C := "HeadDeskModel") (T := F_Mod) (N := 38) hx hb hts a_Mod hown hX.1 hP 0 rfl rfl 33 (by decide) (hts _ m_3_10) (fun _ h9 => h9) rfl d_Mod_keep_203 ?_
                      refine lv_iconst (v := 1) hx hb d_Mod_keep_206 (by decide) ?_
                      refine lv_iadd hx hb d_Mod_keep_207 ?_
                      refine va_put (D := D) (ci := 4) (v := .int ((gR s_200 27) + 1)) (ty := .int) (C := "HeadDeskModel") (T := F_Mod) (N := 38) hx hb hts a_Mod t_Mod k_Mod n_Mod hown hX.1 hP hD hS 0 rfl rfl 33 (by decide) (hts _ m_3_10) (fun _ h9 => h9) rfl (by decide +kernel) rfl rfl (Nat.le_of_ble_eq_true rfl) d_Mod_keep_208 (fun H locs hP hD hS => ?_)
                      have hP : va_P D vwCl (mdW bd ce (wR s_200 27 ((gR s_200 27) + 1))) H := hP
                      have hD : va_D A (mdW bd ce (wR s_200 27 ((gR s_200 27) + 1))) := hD
                      obtain ⟨s_208, e_208⟩ : ∃ z : MS, z = wR s_200 27 ((gR s_200 27) + 1) := ⟨_, rfl⟩
                      have hP : va_P D vwCl (mdW bd ce s_208) H := by rw [e_208]; exact hP
                      have hD : va_D A (mdW bd ce s_208) := by rw [e_208]; exact hD
                      refine lv_iinc (v := nI (j + 1)) (lv' := [(2, .int (nI (j + 1))), (3, .int (bI tf)), (0, .ref (bd 0)), (1, .int x)]) hx hb d_Mod_keep_211 hl (k := 1) rfl (by rw [nI_succ]; rfl) (by decide) rfl (fun ls hl => ?_)
                      refine lv_goto (tgt := 125) hx hb d_Mod_keep_214 (by decide) ?_
                      exact ih (j + 1) s_208 H locs ls (by rw [e_208, e_200]; exact (show j + 1 + k = (gR s1 11).toNatClampNeg by omega)) (by rw [e_208, e_200]; exact h8) (by rw [e_208, e_200]; exact ku hb8.1 hq) (by rw [hF]; simp only [mKpL, ← e_tf, c_180, Bool.false_eq_true, ↓reduceIte, kA, kA2, ← e_200, ← e_208]) hP hD hS (lv_sub hl [0, 2, 3] rfl)
                    · skip
                      have c_180 : tf = true := bI_1 c_180
                      refine lv_goto (tgt := 211) hx hb d_Mod_keep_183 (by decide) ?_
                      refine lv_iinc (v := nI (j + 1)) (lv' := [(2, .int (nI (j + 1))), (3, .int (bI tf)), (0, .ref (bd 0)), (1, .int x)]) hx hb d_Mod_keep_211 hl (k := 1) rfl (by rw [nI_succ]; rfl) (by decide) rfl (fun ls hl => ?_)
                      refine lv_goto (tgt := 125) hx hb d_Mod_keep_214 (by decide) ?_
                      exact ih (j + 1) s1 H locs ls (by exact (show j + 1 + k = (gR s1 11).toNatClampNeg by omega)) (by exact h8) (by exact ⟨hq.1, by omega⟩) (by rw [hF]; simp only [mKpL, ← e_tf, c_180, Bool.false_eq_true, ↓reduceIte]) hP hD hS (lv_sub hl [0, 2, 3] rfl)
                  have loop138 : ∀ (k i : Nat) (t : Bool) (H : Heap) (locs : List Loc) (ls : Array Slot), i + k = (gR s1 27).toNatClampNeg → tf = thL s1 j k i t → va_P D vwCl (mdW bd ce s1) H → va_D A (mdW bd ce s1) → va_S A s.heap H locs → lv_has ls 5 [(4, .int (nI i)), (3, .int (bI t)), (2, .int (nI j)), (0, .ref (bd 0)), (1, .int x)] → W p l e (rmD 1) s m ([.ref (bd 0), .int x] : List Value).toArray below meth c H locs 0 0 Q (F0 m 138 ls []) := by
                    intro k
                    induction k with
                    | zero =>
                      intro i t H locs ls hi hG hP hD hS hl
                      refine lv_iload hx hb d_Mod_keep_138 (lv_at hl 0 rfl) ?_
                      refine lv_aload_n hx hb d_Mod_keep_140 rfl (lv_at hl 3 rfl) ?_
                      refine va_get (D := D) (ci := 4) (v := .int (gR s1 27)) (C := "HeadDeskModel") (T := F_Mod) (N := 38) hx hb hts a_Mod hown hX.1 hP 0 rfl rfl 33 (by decide) (hts _ m_3_10) (fun _ h9 => h9) rfl d_Mod_keep_141 ?_
                      refine lv_icmp_ge (tgt := 179) hx hb d_Mod_keep_144 (by decide) (fun c_144 => ?_) (fun c_144 => ?_)
                      · skip
                        have c_144 : (gR s1 27 ≤ nI i) := c_144
                        exact k179 H locs ls hP hD hS (by rw [hG]; exact lv_sub hl [1, 2, 3, 4] rfl)
                      · skip
                        exact absurd (nI_cyes (by omega) (by have := cl_le (gR s1 27); omega)) c_144
                    | succ k ih =>
                      intro i t H locs ls hi hG hP hD hS hl
                      refine lv_iload hx hb d_Mod_keep_138 (lv_at hl 0 rfl) ?_
                      refine lv_aload_n hx hb d_Mod_keep_140 rfl (lv_at hl 3 rfl) ?_
                      refine va_get (D := D) (ci := 4) (v := .int (gR s1 27)) (C := "HeadDeskModel") (T := F_Mod) (N := 38) hx hb hts a_Mod hown hX.1 hP 0 rfl rfl 33 (by decide) (hts _ m_3_10) (fun _ h9 => h9) rfl d_Mod_keep_141 ?_
                      refine lv_icmp_ge (tgt := 179) hx hb d_Mod_keep_144 (by decide) (fun c_144 => ?_) (fun c_144 => ?_)
                      · skip
                        exact absurd c_144 (nI_cno (by omega))
                      · skip
                        have c_144 : ¬ (gR s1 27 ≤ nI i) := c_144
                        refine lv_iload_n hx hb d_Mod_keep_147 rfl (lv_at hl 1 rfl) ?_
                        refine lv_if_ne (tgt := 167) hx hb d_Mod_keep_148 (by decide) (fun c_148 => ?_) (fun c_148 => ?_)
                        · skip
                          have c_148 : t = true := bI_1 c_148
                          refine lv_iconst (v := 1) hx hb d_Mod_keep_167 (by decide) ?_
                          refine lv_goto (tgt := 172) hx hb d_Mod_keep_168 (by decide) ?_
                          refine lv_istore_n (lv' := [(3, .int 1), (4, .int (nI i)), (2, .int (nI j)), (0, .ref (bd 0)), (1, .int x)]) hx hb d_Mod_keep_172 rfl hl (by decide) rfl (fun ls hl => ?_)
                          refine lv_iinc (v := nI (i + 1)) (lv' := [(4, .int (nI (i + 1))), (3, .int 1), (2, .int (nI j)), (0, .ref (bd 0)), (1, .int x)]) hx hb d_Mod_keep_173 hl (k := 1) rfl (by rw [nI_succ]; rfl) (by decide) rfl (fun ls hl => ?_)
                          refine lv_goto (tgt := 138) hx hb d_Mod_keep_176 (by decide) ?_
                          exact ih (i + 1) true H locs ls (by omega) (by rw [hG]; simp only [thL, if_neg c_144, c_148, Bool.false_eq_true, ↓reduceIte]) hP hD hS (lv_sub hl [0, 1, 2, 3, 4] rfl)
                        · skip
                          have c_148 : t = false := bI_0 c_148
                          refine lv_aload_n hx hb d_Mod_keep_151 rfl (lv_at hl 3 rfl) ?_
                          refine va_get (D := D) (ci := 4) (v := .ref (bd 6)) (C := "HeadDeskModel") (T := F_Mod) (N := 38) hx hb hts a_Mod hown hX.1 hP 0 rfl rfl 32 (by decide) (hts _ m_3_9) (fun _ h9 => h9) rfl d_Mod_keep_152 ?_
                          refine lv_iload hx hb d_Mod_keep_155 (lv_at hl 0 rfl) ?_
                          refine va_iald hx hb hX.1 hP 6 5 rfl rfl (vp_in_nI (by omega) (by decide)) d_Mod_keep_157 ?_
                          refine hx_top (v := (gKm s1) i) (by first | rfl | (rw [nI_clamp (by omega)])) ?_
                          refine lv_aload_n hx hb d_Mod_keep_158 rfl (lv_at hl 3 rfl) ?_
                          refine va_get (D := D) (ci := 4) (v := .ref (bd 2)) (C := "HeadDeskModel") (T := F_Mod) (N := 38) hx hb hts a_Mod hown hX.1 hP 0 rfl rfl 20 (by decide) (hts _ m_2_237) (fun _ h9 => h9) rfl d_Mod_keep_159 ?_
                          refine lv_iload_n hx hb d_Mod_keep_162 rfl (lv_at hl 2 rfl) ?_
                          refine va_iald hx hb hX.1 hP 2 1 rfl rfl (vp_in_nI hb8.1 (by decide)) d_Mod_keep_163 ?_
                          refine hx_top (v := (gMt s1) j) (by first | rfl | (rw [nI_clamp (by omega)])) ?_
                          refine lv_icmp_ne (tgt := 171) hx hb d_Mod_keep_164 (by decide) (fun c_164 => ?_) (fun c_164 => ?_)
                          · skip
                            have c_164 : ¬ ((gKm s1) i = (gMt s1) j) := c_164
                            refine lv_iconst (v := 0) hx hb d_Mod_keep_171 (by decide) ?_
                            refine lv_istore_n (lv' := [(3, .int 0), (4, .int (nI i)), (2, .int (nI j)), (0, .ref (bd 0)), (1, .int x)]) hx hb d_Mod_keep_172 rfl hl (by decide) rfl (fun ls hl => ?_)
                            refine lv_iinc (v := nI (i + 1)) (lv' := [(4, .int (nI (i + 1))), (3, .int 0), (2, .int (nI j)), (0, .ref (bd 0)), (1, .int x)]) hx hb d_Mod_keep_173 hl (k := 1) rfl (by rw [nI_succ]; rfl) (by decide) rfl (fun ls hl => ?_)
                            refine lv_goto (tgt := 138) hx hb d_Mod_keep_176 (by decide) ?_
                            exact ih (i + 1) false H locs ls (by omega) (by rw [hG]; simp only [thL, if_neg c_144, c_148, if_neg c_164, Bool.false_eq_true, ↓reduceIte]) hP hD hS (lv_sub hl [0, 1, 2, 3, 4] rfl)
                          · skip
                            have c_164 : ((gKm s1) i = (gMt s1) j) := c_164
                            refine lv_iconst (v := 1) hx hb d_Mod_keep_167 (by decide) ?_
                            refine lv_goto (tgt := 172) hx hb d_Mod_keep_168 (by decide) ?_
                            refine lv_istore_n (lv' := [(3, .int 1), (4, .int (nI i)), (2, .int (nI j)), (0, .ref (bd 0)), (1, .int x)]) hx hb d_Mod_keep_172 rfl hl (by decide) rfl (fun ls hl => ?_)
                            refine lv_iinc (v := nI (i + 1)) (lv' := [(4, .int (nI (i + 1))), (3, .int 1), (2, .int (nI j)), (0, .ref (bd 0)), (1, .int x)]) hx hb d_Mod_keep_173 hl (k := 1) rfl (by rw [nI_succ]; rfl) (by decide) rfl (fun ls hl => ?_)
                            refine lv_goto (tgt := 138) hx hb d_Mod_keep_176 (by decide) ?_
                            exact ih (i + 1) true H locs ls (by omega) (by rw [hG]; simp only [thL, if_neg c_144, c_148, if_pos c_164, Bool.false_eq_true, ↓reduceIte]) hP hD hS (lv_sub hl [0, 1, 2, 3, 4] rfl)
                  exact loop138 (gR s1 27).toNatClampNeg 0 false H locs ls (by omega) e_tf hP hD hS (lv_sub hl [0, 1, 2, 3, 4] rfl)
            exact loop125 ((gR s_120 11).toNatClampNeg) 0 s_120 H locs ls (by omega) (by rw [e_120, e_117, e_98, e_76, e_55, e_45, e_35, e_25]; exact h8) (by rw [e_120]; exact kq0) (by (try simp only [mKeep, kS, ← e_25, ← e_35, ← e_45, ← e_55, ← e_76, ← e_98, ← e_117, ← e_120, if_true, if_false, Bool.false_eq_true, ↓reduceIte]) <;> (try simp only [mKh, kS, ← e_25, ← e_35, ← e_45, ← e_55, ← e_76, ← e_98, ← e_117, ← e_120, if_true, if_false, Bool.false_eq_true, ↓reduceIte]) <;> (try simp only [mKi, kS, ← e_25, ← e_35, ← e_45, ← e_55, ← e_76, ← e_98, ← e_117, ← e_120, if_true, if_false, Bool.false_eq_true, ↓reduceIte]) <;> (try simp only [mKj, kS, ← e_25, ← e_35, ← e_45, ← e_55, ← e_76, ← e_98, ← e_117, ← e_120, if_true, if_false, Bool.false_eq_true, ↓reduceIte]) <;> (try simp only [mKk, kS, ← e_25, ← e_35, ← e_45, ← e_55, ← e_76, ← e_98, ← e_117, ← e_120, if_true, if_false, Bool.false_eq_true, ↓reduceIte]) <;> (try simp only [mKl, kS, ← e_25, ← e_35, ← e_45, ← e_55, ← e_76, ← e_98, ← e_117, ← e_120, if_true, if_false, Bool.false_eq_true, ↓reduceIte]) <;> (try simp only [mKm, kS, ← e_25, ← e_35, ← e_45, ← e_55, ← e_76, ← e_98, ← e_117, ← e_120, if_true, if_false, Bool.false_eq_true, ↓reduceIte]) <;> (try simp only [mKn, ← e_25, ← e_35, ← e_45, ← e_55, ← e_76, ← e_98, ← e_117, ← e_120, if_true, if_false, Bool.false_eq_true, ↓reduceIte]) <;> (try simp only [mKo, ← e_25, ← e_35, ← e_45, ← e_55, ← e_76, ← e_98, ← e_117, ← e_120, if_true, if_false, Bool.false_eq_true, ↓reduceIte]) <;> (first | done | with_reducible rfl | rw [e_120])) hP hD hS (lv_sub hl [0, 1, 2] rfl)
          refine lv_aload_n hx hb d_Mod_keep_105 rfl (lv_at hl 0 rfl) ?_
          refine va_get (D := D) (ci := 4) (v := .int (gR s_98 16)) (C := "HeadDeskModel") (T := F_Mod) (N := 38) hx hb hts a_Mod hown hX.1 hP 0 rfl rfl 17 (by decide) (hts _ m_2_234) (fun _ h9 => h9) rfl d_Mod_keep_106 ?_
          refine lv_if_eq (tgt := 116) hx hb d_Mod_keep_109 (by decide) (fun c_109 => ?_) (fun c_109 => ?_)
          · skip
            have c_109 : (gR s_98 16 = 0) := c_109
            refine lv_iconst (v := 0) hx hb d_Mod_keep_116 (by decide) ?_
            refine hx_top (v := kv6 s_98) (by simp only [kv6, if_pos c_109, ↓reduceIte]) ?_
            exact jn117
          · skip
            have c_109 : ¬ (gR s_98 16 = 0) := c_109
            refine lv_iconst (v := 1) hx hb d_Mod_keep_112 (by decide) ?_
            refine lv_goto (tgt := 117) hx hb d_Mod_keep_113 (by decide) ?_
            refine hx_top (v := kv6 s_98) (by simp only [kv6, if_neg c_109, ↓reduceIte]) ?_
            exact jn117
        refine lv_aload_n hx hb d_Mod_keep_82 rfl (lv_at hl 0 rfl) ?_
        refine va_get (D := D) (ci := 4) (v := .int (gR s_76 8)) (C := "HeadDeskModel") (T := F_Mod) (N := 38) hx hb hts a_Mod hown hX.1 hP 0 rfl rfl 9 (by decide) (hts _ m_2_226) (fun _ h9 => h9) rfl d_Mod_keep_83 ?_
        refine lv_iconst (v := 1) hx hb d_Mod_keep_86 (by decide) ?_
        refine lv_icmp_ne (tgt := 97) hx hb d_Mod_keep_87 (by decide) (fun c_87 => ?_) (fun c_87 => ?_)
        · skip
          have c_87 : ¬ (gR s_76 8 = 1) := c_87
          refine lv_iconst (v := (-1)) hx hb d_Mod_keep_97 (by decide) ?_
          refine hx_top (v := kv5 s_76) (by simp only [kv5, if_neg c_87, ↓reduceIte]) ?_
          exact jn98
        · skip
          have c_87 : (gR s_76 8 = 1) := c_87
          refine lv_aload_n hx hb d_Mod_keep_90 rfl (lv_at hl 0 rfl) ?_
          refine va_get (D := D) (ci := 4) (v := .int (gR s_76 10)) (C := "HeadDeskModel") (T := F_Mod) (N := 38) hx hb hts a_Mod hown hX.1 hP 0 rfl rfl 11 (by decide) (hts _ m_2_228) (fun _ h9 => h9) rfl d_Mod_keep_91 ?_
          refine lv_goto (tgt := 98) hx hb d_Mod_keep_94 (by decide) ?_
          refine hx_top (v := kv5 s_76) (by simp only [kv5, if_pos c_87, ↓reduceIte]) ?_
          exact jn98
      refine lv_aload_n hx hb d_Mod_keep_61 rfl (lv_at hl 0 rfl) ?_
      refine va_get (D := D) (ci := 4) (v := .int (gR s_55 8)) (C := "HeadDeskModel") (T := F_Mod) (N := 38) hx hb hts a_Mod hown hX.1 hP 0 rfl rfl 9 (by decide) (hts _ m_2_226) (fun _ h9 => h9) rfl d_Mod_keep_62 ?_
      refine lv_if_ne (tgt := 72) hx hb d_Mod_keep_65 (by decide) (fun c_65 => ?_) (fun c_65 => ?_)
      · skip
        have c_65 : ¬ (gR s_55 8 = 0) := c_65
        refine lv_aload_n hx hb d_Mod_keep_72 rfl (lv_at hl 0 rfl) ?_
        refine va_get (D := D) (ci := 4) (v := .int (gR s_55 9)) (C := "HeadDeskModel") (T := F_Mod) (N := 38) hx hb hts a_Mod hown hX.1 hP 0 rfl rfl 10 (by decide) (hts _ m_2_227) (fun _ h9 => h9) rfl d_Mod_keep_73 ?_
        refine hx_top (v := kv4 s_55) (by simp only [kv4, if_neg c_65, ↓reduceIte]) ?_
        exact jn76
      · skip
        have c_65 : (gR s_55 8 = 0) := c_65
        refine lv_iconst (v := (-1)) hx hb d_Mod_keep_68 (by decide) ?_
        refine lv_goto (tgt := 76) hx hb d_Mod_keep_69 (by decide) ?_
        refine hx_top (v := kv4 s_55) (by simp only [kv4, if_pos c_65, ↓reduceIte]) ?_
        exact jn76
    refine lv_iload_n hx hb d_Mod_keep_5 rfl (lv_at hl 1 rfl) ?_
    refine lv_if_ne (tgt := 13) hx hb d_Mod_keep_6 (by decide) (fun c_6 => ?_) (fun c_6 => ?_)
    · skip
      have c_6 : ¬ (x = 0) := c_6
      refine lv_aload_n hx hb d_Mod_keep_13 rfl (lv_at hl 0 rfl) ?_
      refine va_get (D := D) (ci := 4) (v := .int (gR st 15)) (C := "HeadDeskModel") (T := F_Mod) (N := 38) hx hb hts a_Mod hown hX.1 hP 0 rfl rfl 16 (by decide) (hts _ m_2_233) (fun _ h9 => h9) rfl d_Mod_keep_14 ?_
      refine lv_if_eq (tgt := 24) hx hb d_Mod_keep_17 (by decide) (fun c_17 => ?_) (fun c_17 => ?_)
      · skip
        have c_17 : (gR st 15 = 0) := c_17
        refine lv_iconst (v := 1) hx hb d_Mod_keep_24 (by decide) ?_
        refine hx_top (v := kv0 st x) (by simp only [kv0, if_neg c_6, if_pos c_17, ↓reduceIte]) ?_
        exact jn25
      · skip
        have c_17 : ¬ (gR st 15 = 0) := c_17
        refine lv_iconst (v := 2) hx hb d_Mod_keep_20 (by decide) ?_
        refine lv_goto (tgt := 25) hx hb d_Mod_keep_21 (by decide) ?_
        refine hx_top (v := kv0 st x) (by simp only [kv0, if_neg c_6, if_neg c_17, ↓reduceIte]) ?_
        exact jn25
    · skip
      have c_6 : (x = 0) := c_6
      refine lv_iconst (v := 3) hx hb d_Mod_keep_9 (by decide) ?_
      refine lv_goto (tgt := 25) hx hb d_Mod_keep_10 (by decide) ?_
      refine hx_top (v := kv0 st x) (by simp only [kv0, if_pos c_6, ↓reduceIte]) ?_
      exact jn25
  rw [hH, hlo] at goal
  exact goal
