variable {l : Launch} {D : va_G} {bd : Nat → Nat} {ce : Nat → ClassId} {adK adV : Nat → Nat} {tF : Nat} {tys : List (ClassId × FieldType)}

set_option maxHeartbeats 4000000 in
set_option maxRecDepth 100000 in
theorem c_Mod_readText (st : MS) (hp : pInv st) (x : Int32) : hx_Mz l D (tyM ce) adK adV tF (mdW bd ce) y_Mod_readText w_Mod_readText (rmD 9) [.ref (bd 0), .int x] st ((mTxt st x).1) ((mTxt st x).2) := by
  refine hx_Mz.of (cc := b_Mod_readText) (maxL := 2) (by decide) rfl (Nat.le_of_ble_eq_true rfl) ?_
  intro p e s m below meth c A Q ls hI hX hA hP hD hS hl hret
  obtain ⟨hx, hb, hml, hown, hts⟩ := id hI
  have hts : ∀ w ∈ aw, w.before ([.ref (bd 0), .int x] : List Value).toArray s = true := fun w h => hts w (List.mem_cons_of_mem _ h)
  have hown : s.vm.findClass "HeadDeskModel" = some m.cls := hown
  have hI : hx_In p s m ([.ref (bd 0), .int x] : List Value).toArray c b_Mod_readText 2 "HeadDeskModel" aw := ⟨hx, hb, hml, hown, hts⟩
  have hP : va_P D vwCl (mdW bd ce st) s.heap := hP
  obtain ⟨H, hH⟩ : ∃ H, H = s.heap := ⟨_, rfl⟩
  obtain ⟨locs, hlo⟩ : ∃ locs : List Loc, locs = [] := ⟨_, rfl⟩
  have hS : va_S A s.heap H locs := by rw [hH, hlo]; exact hS
  have hP : va_P D vwCl (mdW bd ce st) H := by rw [hH]; exact hP
  have hl : lv_has ls 2 [(0, .ref (bd 0)), (1, .int x)] := hl
  have goal : W p l e (rmD 9) s m ([.ref (bd 0), .int x] : List Value).toArray below meth c H locs 0 0 Q (F0 m 0 ls []) := by
    refine lv_aload_n hx hb d_Mod_readText_0 rfl (lv_at hl 0 rfl) ?_
    refine lv_iconst (v := 0) hx hb d_Mod_readText_1 (by decide) ?_
    refine va_put (D := D) (ci := 4) (v := .int 0) (ty := .int) (C := "HeadDeskModel") (T := F_Mod) (N := 38) hx hb hts a_Mod t_Mod k_Mod n_Mod hown hX.1 hP hD hS 0 rfl rfl 4 (by decide) (hts _ m_2_221) (fun _ h9 => h9) rfl (by decide +kernel) rfl rfl (Nat.le_of_ble_eq_true rfl) d_Mod_readText_2 (fun H locs hP hD hS => ?_)
    have hP : va_P D vwCl (mdW bd ce (wR st 3 0)) H := hP
    have hD : va_D A (mdW bd ce (wR st 3 0)) := hD
    obtain ⟨s_2, e_2⟩ : ∃ z : MS, z = wR st 3 0 := ⟨_, rfl⟩
    have hP : va_P D vwCl (mdW bd ce s_2) H := by rw [e_2]; exact hP
    have hD : va_D A (mdW bd ce s_2) := by rw [e_2]; exact hD
    refine lv_aload_n hx hb d_Mod_readText_5 rfl (lv_at hl 0 rfl) ?_
    refine lv_iconst (v := 0) hx hb d_Mod_readText_6 (by decide) ?_
    refine va_put (D := D) (ci := 4) (v := .int 0) (ty := .boolean) (C := "HeadDeskModel") (T := F_Mod) (N := 38) hx hb hts a_Mod t_Mod k_Mod n_Mod hown hX.1 hP hD hS 0 rfl rfl 5 (by decide) (hts _ m_2_222) (fun _ h9 => h9) rfl (by decide +kernel) rfl rfl (Nat.le_of_ble_eq_true rfl) d_Mod_readText_7 (fun H locs hP hD hS => ?_)
    have hP : va_P D vwCl (mdW bd ce (wR s_2 4 0)) H := hP
    have hD : va_D A (mdW bd ce (wR s_2 4 0)) := hD
    obtain ⟨s_7, e_7⟩ : ∃ z : MS, z = wR s_2 4 0 := ⟨_, rfl⟩
    have hP : va_P D vwCl (mdW bd ce s_7) H := by rw [e_7]; exact hP
    have hD : va_D A (mdW bd ce s_7) := by rw [e_7]; exact hD
    refine lv_aload_n hx hb d_Mod_readText_10 rfl (lv_at hl 0 rfl) ?_
    refine lv_iconst (v := 0) hx hb d_Mod_readText_11 (by decide) ?_
    refine va_put (D := D) (ci := 4) (v := .int 0) (ty := .int) (C := "HeadDeskModel") (T := F_Mod) (N := 38) hx hb hts a_Mod t_Mod k_Mod n_Mod hown hX.1 hP hD hS 0 rfl rfl 28 (by decide) (hts _ m_3_5) (fun _ h9 => h9) rfl (by decide +kernel) rfl rfl (Nat.le_of_ble_eq_true rfl) d_Mod_readText_12 (fun H locs hP hD hS => ?_)
    have hP : va_P D vwCl (mdW bd ce (wR s_7 26 0)) H := hP
    have hD : va_D A (mdW bd ce (wR s_7 26 0)) := hD
    have i_12 : mInv (wR s_7 26 0) := by rw [e_7, e_2]; exact inv_rst hp
    obtain ⟨s_12, e_12⟩ : ∃ z : MS, z = wR s_7 26 0 := ⟨_, rfl⟩
    have hP : va_P D vwCl (mdW bd ce s_12) H := by rw [e_12]; exact hP
    have hD : va_D A (mdW bd ce s_12) := by rw [e_12]; exact hD
    have i_12 : mInv s_12 := by rw [e_12]; exact i_12
    refine lv_aload_n hx hb d_Mod_readText_15 rfl (lv_at hl 0 rfl) ?_
    refine lv_iconst (v := 0) hx hb d_Mod_readText_16 (by decide) ?_
    refine va_put (D := D) (ci := 4) (v := .int 0) (ty := .int) (C := "HeadDeskModel") (T := F_Mod) (N := 38) hx hb hts a_Mod t_Mod k_Mod n_Mod hown hX.1 hP hD hS 0 rfl rfl 9 (by decide) (hts _ m_2_226) (fun _ h9 => h9) rfl (by decide +kernel) rfl rfl (Nat.le_of_ble_eq_true rfl) d_Mod_readText_17 (fun H locs hP hD hS => ?_)
    have hP : va_P D vwCl (mdW bd ce (wR s_12 8 0)) H := hP
    have hD : va_D A (mdW bd ce (wR s_12 8 0)) := hD
    obtain ⟨s_17, e_17⟩ : ∃ z : MS, z = wR s_12 8 0 := ⟨_, rfl⟩
    have hP : va_P D vwCl (mdW bd ce s_17) H := by rw [e_17]; exact hP
    have hD : va_D A (mdW bd ce s_17) := by rw [e_17]; exact hD
    have i_17 : mInv s_17 := by rw [e_17]; exact i_12
    refine lv_aload_n hx hb d_Mod_readText_20 rfl (lv_at hl 0 rfl) ?_
    refine lv_iconst (v := 0) hx hb d_Mod_readText_21 (by decide) ?_
    refine va_put (D := D) (ci := 4) (v := .int 0) (ty := .int) (C := "HeadDeskModel") (T := F_Mod) (N := 38) hx hb hts a_Mod t_Mod k_Mod n_Mod hown hX.1 hP hD hS 0 rfl rfl 12 (by decide) (hts _ m_2_229) (fun _ h9 => h9) rfl (by decide +kernel) rfl rfl (Nat.le_of_ble_eq_true rfl) d_Mod_readText_22 (fun H locs hP hD hS => ?_)
    have hP : va_P D vwCl (mdW bd ce (wR s_17 11 0)) H := hP
    have hD : va_D A (mdW bd ce (wR s_17 11 0)) := hD
    obtain ⟨s_22, e_22⟩ : ∃ z : MS, z = wR s_17 11 0 := ⟨_, rfl⟩
    have hP : va_P D vwCl (mdW bd ce s_22) H := by rw [e_22]; exact hP
    have hD : va_D A (mdW bd ce s_22) := by rw [e_22]; exact hD
    have i_22 : mInv s_22 := by rw [e_22]; exact i_17
    refine lv_aload_n hx hb d_Mod_readText_25 rfl (lv_at hl 0 rfl) ?_
    refine lv_iconst (v := (-1)) hx hb d_Mod_readText_26 (by decide) ?_
    refine va_put (D := D) (ci := 4) (v := .int (-1)) (ty := .int) (C := "HeadDeskModel") (T := F_Mod) (N := 38) hx hb hts a_Mod t_Mod k_Mod n_Mod hown hX.1 hP hD hS 0 rfl rfl 13 (by decide) (hts _ m_2_230) (fun _ h9 => h9) rfl (by decide +kernel) rfl rfl (Nat.le_of_ble_eq_true rfl) d_Mod_readText_27 (fun H locs hP hD hS => ?_)
    have hP : va_P D vwCl (mdW bd ce (wR s_22 12 (-1))) H := hP
    have hD : va_D A (mdW bd ce (wR s_22 12 (-1))) := hD
    obtain ⟨s_27, e_27⟩ : ∃ z : MS, z = wR s_22 12 (-1) := ⟨_, rfl⟩
    have hP : va_P D vwCl (mdW bd ce s_27) H := by rw [e_27]; exact hP
    have hD : va_D A (mdW bd ce s_27) := by rw [e_27]; exact hD
    have i_27 : mInv s_27 := by rw [e_27]; exact i_22
    refine lv_aload_n hx hb d_Mod_readText_30 rfl (lv_at hl 0 rfl) ?_
    refine lv_iconst (v := (-1)) hx hb d_Mod_readText_31 (by decide) ?_
    refine va_put (D := D) (ci := 4) (v := .int (-1)) (ty := .int) (C := "HeadDeskModel") (T := F_Mod) (N := 38) hx hb hts a_Mod t_Mod k_Mod n_Mod hown hX.1 hP hD hS 0 rfl rfl 14 (by decide) (hts _ m_2_231) (fun _ h9 => h9) rfl (by decide +kernel) rfl rfl (Nat.le_of_ble_eq_true rfl) d_Mod_readText_32 (fun H locs hP hD hS => ?_)
    have hP : va_P D vwCl (mdW bd ce (wR s_27 13 (-1))) H := hP
    have hD : va_D A (mdW bd ce (wR s_27 13 (-1))) := hD
    obtain ⟨s_32, e_32⟩ : ∃ z : MS, z = wR s_27 13 (-1) := ⟨_, rfl⟩
    have hP : va_P D vwCl (mdW bd ce s_32) H := by rw [e_32]; exact hP
    have hD : va_D A (mdW bd ce s_32) := by rw [e_32]; exact hD
    have i_32 : mInv s_32 := by rw [e_32]; exact i_27
    refine lv_aload_n hx hb d_Mod_readText_35 rfl (lv_at hl 0 rfl) ?_
    refine lv_iconst (v := (-1)) hx hb d_Mod_readText_36 (by decide) ?_
    refine va_put (D := D) (ci := 4) (v := .int (-1)) (ty := .int) (C := "HeadDeskModel") (T := F_Mod) (N := 38) hx hb hts a_Mod t_Mod k_Mod n_Mod hown hX.1 hP hD hS 0 rfl rfl 15 (by decide) (hts _ m_2_232) (fun _ h9 => h9) rfl (by decide +kernel) rfl rfl (Nat.le_of_ble_eq_true rfl) d_Mod_readText_37 (fun H locs hP hD hS => ?_)
    have hP : va_P D vwCl (mdW bd ce (wR s_32 14 (-1))) H := hP
    have hD : va_D A (mdW bd ce (wR s_32 14 (-1))) := hD
    obtain ⟨s_37, e_37⟩ : ∃ z : MS, z = wR s_32 14 (-1) := ⟨_, rfl⟩
    have hP : va_P D vwCl (mdW bd ce s_37) H := by rw [e_37]; exact hP
    have hD : va_D A (mdW bd ce s_37) := by rw [e_37]; exact hD
    have i_37 : mInv s_37 := by rw [e_37]; exact i_32
    refine lv_aload_n hx hb d_Mod_readText_40 rfl (lv_at hl 0 rfl) ?_
    refine lv_iconst (v := 0) hx hb d_Mod_readText_41 (by decide) ?_
    refine va_put (D := D) (ci := 4) (v := .int 0) (ty := .boolean) (C := "HeadDeskModel") (T := F_Mod) (N := 38) hx hb hts a_Mod t_Mod k_Mod n_Mod hown hX.1 hP hD hS 0 rfl rfl 17 (by decide) (hts _ m_2_234) (fun _ h9 => h9) rfl (by decide +kernel) rfl rfl (Nat.le_of_ble_eq_true rfl) d_Mod_readText_42 (fun H locs hP hD hS => ?_)
    have hP : va_P D vwCl (mdW bd ce (wR s_37 16 0)) H := hP
    have hD : va_D A (mdW bd ce (wR s_37 16 0)) := hD
    obtain ⟨s_42, e_42⟩ : ∃ z : MS, z = wR s_37 16 0 := ⟨_, rfl⟩
    have hP : va_P D vwCl (mdW bd ce s_42) H := by rw [e_42]; exact hP
    have hD : va_D A (mdW bd ce s_42) := by rw [e_42]; exact hD
    have i_42 : mInv s_42 := by rw [e_42]; exact i_37
    refine lv_aload_n hx hb d_Mod_readText_45 rfl (lv_at hl 0 rfl) ?_
    refine lv_iconst (v := 0) hx hb d_Mod_readText_46 (by decide) ?_
    refine va_put (D := D) (ci := 4) (v := .int 0) (ty := .boolean) (C := "HeadDeskModel") (T := F_Mod) (N := 38) hx hb hts a_Mod t_Mod k_Mod n_Mod hown hX.1 hP hD hS 0 rfl rfl 18 (by decide) (hts _ m_2_235) (fun _ h9 => h9) rfl (by decide +kernel) rfl rfl (Nat.le_of_ble_eq_true rfl) d_Mod_readText_47 (fun H locs hP hD hS => ?_)
    have hP : va_P D vwCl (mdW bd ce (wR s_42 17 0)) H := hP
    have hD : va_D A (mdW bd ce (wR s_42 17 0)) := hD
    obtain ⟨s_47, e_47⟩ : ∃ z : MS, z = wR s_42 17 0 := ⟨_, rfl⟩
    have hP : va_P D vwCl (mdW bd ce s_47) H := by rw [e_47]; exact hP
    have hD : va_D A (mdW bd ce s_47) := by rw [e_47]; exact hD
    have i_47 : mInv s_47 := by rw [e_47]; exact i_42
    refine lv_aload_n hx hb d_Mod_readText_50 rfl (lv_at hl 0 rfl) ?_
    refine lv_iconst (v := 0) hx hb d_Mod_readText_51 (by decide) ?_
    refine va_put (D := D) (ci := 4) (v := .int 0) (ty := .boolean) (C := "HeadDeskModel") (T := F_Mod) (N := 38) hx hb hts a_Mod t_Mod k_Mod n_Mod hown hX.1 hP hD hS 0 rfl rfl 19 (by decide) (hts _ m_2_236) (fun _ h9 => h9) rfl (by decide +kernel) rfl rfl (Nat.le_of_ble_eq_true rfl) d_Mod_readText_52 (fun H locs hP hD hS => ?_)
    have hP : va_P D vwCl (mdW bd ce (wR s_47 18 0)) H := hP
    have hD : va_D A (mdW bd ce (wR s_47 18 0)) := hD
    obtain ⟨s_52, e_52⟩ : ∃ z : MS, z = wR s_47 18 0 := ⟨_, rfl⟩
    have hP : va_P D vwCl (mdW bd ce s_52) H := by rw [e_52]; exact hP
    have hD : va_D A (mdW bd ce s_52) := by rw [e_52]; exact hD
    have i_52 : mInv s_52 := by rw [e_52]; exact i_47
    refine lv_aload_n hx hb d_Mod_readText_55 rfl (lv_at hl 0 rfl) ?_
    refine lv_iconst (v := 0) hx hb d_Mod_readText_56 (by decide) ?_
    refine va_put (D := D) (ci := 4) (v := .int 0) (ty := .boolean) (C := "HeadDeskModel") (T := F_Mod) (N := 38) hx hb hts a_Mod t_Mod k_Mod n_Mod hown hX.1 hP hD hS 0 rfl rfl 16 (by decide) (hts _ m_2_233) (fun _ h9 => h9) rfl (by decide +kernel) rfl rfl (Nat.le_of_ble_eq_true rfl) d_Mod_readText_57 (fun H locs hP hD hS => ?_)
    have hP : va_P D vwCl (mdW bd ce (wR s_52 15 0)) H := hP
    have hD : va_D A (mdW bd ce (wR s_52 15 0)) := hD
    obtain ⟨s_57, e_57⟩ : ∃ z : MS, z = wR s_52 15 0 := ⟨_, rfl⟩
    have hP : va_P D vwCl (mdW bd ce s_57) H := by rw [e_57]; exact hP
    have hD : va_D A (mdW bd ce s_57) := by rw [e_57]; exact hD
    have i_57 : mInv s_57 := by rw [e_57]; exact i_52
    refine lv_aload_n hx hb d_Mod_readText_60 rfl (lv_at hl 0 rfl) ?_
    refine lv_iconst (v := 0) hx hb d_Mod_readText_61 (by decide) ?_
    refine va_put (D := D) (ci := 4) (v := .int 0) (ty := .int) (C := "HeadDeskModel") (T := F_Mod) (N := 38) hx hb hts a_Mod t_Mod k_Mod n_Mod hown hX.1 hP hD hS 0 rfl rfl 21 (by decide) (hts _ m_2_238) (fun _ h9 => h9) rfl (by decide +kernel) rfl rfl (Nat.le_of_ble_eq_true rfl) d_Mod_readText_62 (fun H locs hP hD hS => ?_)
    have hP : va_P D vwCl (mdW bd ce (wR s_57 19 0)) H := hP
    have hD : va_D A (mdW bd ce (wR s_57 19 0)) := hD
    obtain ⟨s_62, e_62⟩ : ∃ z : MS, z = wR s_57 19 0 := ⟨_, rfl⟩
    have hP : va_P D vwCl (mdW bd ce s_62) H := by rw [e_62]; exact hP
    have hD : va_D A (mdW bd ce s_62) := by rw [e_62]; exact hD
    have i_62 : mInv s_62 := by rw [e_62]; exact i_57
    refine lv_aload_n hx hb d_Mod_readText_65 rfl (lv_at hl 0 rfl) ?_
    refine lv_iconst (v := 0) hx hb d_Mod_readText_66 (by decide) ?_
    refine va_put (D := D) (ci := 4) (v := .int 0) (ty := .int) (C := "HeadDeskModel") (T := F_Mod) (N := 38) hx hb hts a_Mod t_Mod k_Mod n_Mod hown hX.1 hP hD hS 0 rfl rfl 22 (by decide) (hts _ m_2_239) (fun _ h9 => h9) rfl (by decide +kernel) rfl rfl (Nat.le_of_ble_eq_true rfl) d_Mod_readText_67 (fun H locs hP hD hS => ?_)
    have hP : va_P D vwCl (mdW bd ce (wR s_62 20 0)) H := hP
    have hD : va_D A (mdW bd ce (wR s_62 20 0)) := hD
    obtain ⟨s_67, e_67⟩ : ∃ z : MS, z = wR s_62 20 0 := ⟨_, rfl⟩
    have hP : va_P D vwCl (mdW bd ce s_67) H := by rw [e_67]; exact hP
    have hD : va_D A (mdW bd ce s_67) := by rw [e_67]; exact hD
    have i_67 : mInv s_67 := by rw [e_67]; exact i_62
    refine lv_aload_n hx hb d_Mod_readText_70 rfl (lv_at hl 0 rfl) ?_
    refine lv_iconst (v := (-1)) hx hb d_Mod_readText_71 (by decide) ?_
    refine va_put (D := D) (ci := 4) (v := .int (-1)) (ty := .int) (C := "HeadDeskModel") (T := F_Mod) (N := 38) hx hb hts a_Mod t_Mod k_Mod n_Mod hown hX.1 hP hD hS 0 rfl rfl 23 (by decide) (hts _ m_3_0) (fun _ h9 => h9) rfl (by decide +kernel) rfl rfl (Nat.le_of_ble_eq_true rfl) d_Mod_readText_72 (fun H locs hP hD hS => ?_)
    have hP : va_P D vwCl (mdW bd ce (wR s_67 21 (-1))) H := hP
    have hD : va_D A (mdW bd ce (wR s_67 21 (-1))) := hD
    obtain ⟨s_72, e_72⟩ : ∃ z : MS, z = wR s_67 21 (-1) := ⟨_, rfl⟩
    have hP : va_P D vwCl (mdW bd ce s_72) H := by rw [e_72]; exact hP
    have hD : va_D A (mdW bd ce s_72) := by rw [e_72]; exact hD
    have i_72 : mInv s_72 := by rw [e_72]; exact i_67
    refine lv_aload_n hx hb d_Mod_readText_75 rfl (lv_at hl 0 rfl) ?_
    refine lv_iconst (v := (-1)) hx hb d_Mod_readText_76 (by decide) ?_
    refine va_put (D := D) (ci := 4) (v := .int (-1)) (ty := .int) (C := "HeadDeskModel") (T := F_Mod) (N := 38) hx hb hts a_Mod t_Mod k_Mod n_Mod hown hX.1 hP hD hS 0 rfl rfl 24 (by decide) (hts _ m_3_1) (fun _ h9 => h9) rfl (by decide +kernel) rfl rfl (Nat.le_of_ble_eq_true rfl) d_Mod_readText_77 (fun H locs hP hD hS => ?_)
    have hP : va_P D vwCl (mdW bd ce (wR s_72 22 (-1))) H := hP
    have hD : va_D A (mdW bd ce (wR s_72 22 (-1))) := hD
    obtain ⟨s_77, e_77⟩ : ∃ z : MS, z = wR s_72 22 (-1) := ⟨_, rfl⟩
    have hP : va_P D vwCl (mdW bd ce s_77) H := by rw [e_77]; exact hP
    have hD : va_D A (mdW bd ce s_77) := by rw [e_77]; exact hD
    have i_77 : mInv s_77 := by rw [e_77]; exact i_72
    refine lv_aload_n hx hb d_Mod_readText_80 rfl (lv_at hl 0 rfl) ?_
    refine lv_iconst (v := (-1)) hx hb d_Mod_readText_81 (by decide) ?_
    refine va_put (D := D) (ci := 4) (v := .int (-1)) (ty := .int) (C := "HeadDeskModel") (T := F_Mod) (N := 38) hx hb hts a_Mod t_Mod k_Mod n_Mod hown hX.1 hP hD hS 0 rfl rfl 25 (by decide) (hts _ m_3_2) (fun _ h9 => h9) rfl (by decide +kernel) rfl rfl (Nat.le_of_ble_eq_true rfl) d_Mod_readText_82 (fun H locs hP hD hS => ?_)
    have hP : va_P D vwCl (mdW bd ce (wR s_77 23 (-1))) H := hP
    have hD : va_D A (mdW bd ce (wR s_77 23 (-1))) := hD
    obtain ⟨s_82, e_82⟩ : ∃ z : MS, z = wR s_77 23 (-1) := ⟨_, rfl⟩
    have hP : va_P D vwCl (mdW bd ce s_82) H := by rw [e_82]; exact hP
    have hD : va_D A (mdW bd ce s_82) := by rw [e_82]; exact hD
    have i_82 : mInv s_82 := by rw [e_82]; exact i_77
    refine lv_aload_n hx hb d_Mod_readText_85 rfl (lv_at hl 0 rfl) ?_
    refine lv_iconst (v := 0) hx hb d_Mod_readText_86 (by decide) ?_
    refine va_put (D := D) (ci := 4) (v := .int 0) (ty := .boolean) (C := "HeadDeskModel") (T := F_Mod) (N := 38) hx hb hts a_Mod t_Mod k_Mod n_Mod hown hX.1 hP hD hS 0 rfl rfl 26 (by decide) (hts _ m_3_3) (fun _ h9 => h9) rfl (by decide +kernel) rfl rfl (Nat.le_of_ble_eq_true rfl) d_Mod_readText_87 (fun H locs hP hD hS => ?_)
    have hP : va_P D vwCl (mdW bd ce (wR s_82 24 0)) H := hP
    have hD : va_D A (mdW bd ce (wR s_82 24 0)) := hD
    obtain ⟨s_87, e_87⟩ : ∃ z : MS, z = wR s_82 24 0 := ⟨_, rfl⟩
    have hP : va_P D vwCl (mdW bd ce s_87) H := by rw [e_87]; exact hP
    have hD : va_D A (mdW bd ce s_87) := by rw [e_87]; exact hD
    have i_87 : mInv s_87 := by rw [e_87]; exact i_82
    refine lv_aload_n hx hb d_Mod_readText_90 rfl (lv_at hl 0 rfl) ?_
    refine lv_iconst (v := 0) hx hb d_Mod_readText_91 (by decide) ?_
    refine va_put (D := D) (ci := 4) (v := .int 0) (ty := .boolean) (C := "HeadDeskModel") (T := F_Mod) (N := 38) hx hb hts a_Mod t_Mod k_Mod n_Mod hown hX.1 hP hD hS 0 rfl rfl 27 (by decide) (hts _ m_3_4) (fun _ h9 => h9) rfl (by decide +kernel) rfl rfl (Nat.le_of_ble_eq_true rfl) d_Mod_readText_92 (fun H locs hP hD hS => ?_)
    have hP : va_P D vwCl (mdW bd ce (wR s_87 25 0)) H := hP
    have hD : va_D A (mdW bd ce (wR s_87 25 0)) := hD
    obtain ⟨s_92, e_92⟩ : ∃ z : MS, z = wR s_87 25 0 := ⟨_, rfl⟩
    have hP : va_P D vwCl (mdW bd ce s_92) H := by rw [e_92]; exact hP
    have hD : va_D A (mdW bd ce s_92) := by rw [e_92]; exact hD
    have i_92 : mInv s_92 := by rw [e_92]; exact i_87
    have e_92 : s_92 = mRst st := by rw [e_92, e_87, e_82, e_77, e_72, e_67, e_62, e_57, e_52, e_47, e_42, e_37, e_32, e_27, e_22, e_17, e_12, e_7, e_2]; rfl
    have hj92 : jInv s_92 := by rw [e_92]; exact jv_rst
    refine lv_iload_n hx hb d_Mod_readText_95 rfl (lv_at hl 1 rfl) ?_
    have jn139 : ∀ (s1 : MS) (H : Heap) (locs : List Loc) (ls : Array Slot), mInv s1 → jInv s1 → mTxt st x = mTxtB s1 x → va_P D vwCl (mdW bd ce s1) H → va_D A (mdW bd ce s1) → va_S A s.heap H locs → lv_has ls 2 [(0, .ref (bd 0)), (1, .int x)] → W p l e (rmD 9) s m ([.ref (bd 0), .int x] : List Value).toArray below meth c H locs 0 0 Q (F0 m 139 ls []) := by
      intro s1 H locs ls hv hj hF hP hD hS hl
      refine lv_aload_n hx hb d_Mod_readText_139 rfl (lv_at hl 0 rfl) ?_
      refine lv_iload_n hx hb d_Mod_readText_140 rfl (lv_at hl 1 rfl) ?_
      refine hx_Vv (wr := []) (As := [.int x]) (rest := []) hI (c_Mod_target s1 hv x) (cw_V (C := "HeadDeskModel") 1 hts m_3_130 m_3_132 ms_30 m_1_5 m_3_133 (by decide +kernel) ⟨by decide, by decide⟩) hX hA hP hD hS [0, 1, 2, 3, 4, 5, 6] [] rfl rfl (by decide) (by decide) (by decide) (va_recv hX.1 hP (ci := 4) (q0 := 0) rfl rfl) rfl hl.1 rfl (Nat.le_of_ble_eq_true rfl) d_Mod_readText_141 ⟨Nat.zero_le _, Nat.zero_le _⟩ (fun H locs hP hD hS => ?_)
      obtain ⟨s_141, e_141⟩ : ∃ z : MS, z = mTgt s1 x := ⟨_, rfl⟩
      have i_141 : mInv s_141 := by rw [e_141]; exact inv_tgt hv
      have hP : va_P D vwCl (mdW bd ce s_141) H := by rw [e_141]; exact hP
      have hD : va_D A (mdW bd ce s_141) := by rw [e_141]; exact hD
      have loop144 : ∀ (k : Nat) (s2 : MS) (H : Heap) (locs : List Loc) (ls : Array Slot), (gR s2 4 = 0 → (gR s2 1).toInt + 1 ≤ (gR s2 3).toInt + (k : Int)) → mInv s2 → jInv s2 → mTxt st x = mTxtL k x s2 → va_P D vwCl (mdW bd ce s2) H → va_D A (mdW bd ce s2) → va_S A s.heap H locs → lv_has ls 2 [(0, .ref (bd 0)), (1, .int x)] → W p l e (rmD 9) s m ([.ref (bd 0), .int x] : List Value).toArray below meth c H locs 0 0 Q (F0 m 144 ls []) := by
        intro k
        induction k with
        | zero =>
          intro s2 H locs ls hk hv hj hF hP hD hS hl
          refine lv_aload_n hx hb d_Mod_readText_144 rfl (lv_at hl 0 rfl) ?_
          refine va_get (D := D) (ci := 4) (v := .int (gR s2 4)) (C := "HeadDeskModel") (T := F_Mod) (N := 38) hx hb hts a_Mod hown hX.1 hP 0 rfl rfl 5 (by decide) (hts _ m_2_222) (fun _ h9 => h9) rfl d_Mod_readText_145 ?_
          refine lv_if_ne (tgt := 168) hx hb d_Mod_readText_148 (by decide) (fun c_148 => ?_) (fun c_148 => ?_)
          · skip
            have c_148 : ¬ (gR s2 4 = 0) := c_148
            refine lv_aload_n hx hb d_Mod_readText_168 rfl (lv_at hl 0 rfl) ?_
            refine lv_bipush (v := 10) hx hb d_Mod_readText_169 (by decide) ?_
            refine hx_Vz (wr := []) (As := [.int 10]) (rest := []) hI (c_Mod_expect s2 hv 10 (by decide)) (cw_V (C := "HeadDeskModel") 1 hts m_3_120 m_3_122 ms_28 m_1_5 m_3_123 (by decide +kernel) ⟨by decide, by decide⟩) hX hA hP hD hS [0, 1, 2, 3, 4, 5, 6] [] rfl rfl (by decide) (by decide) (by decide) (va_recv hX.1 hP (ci := 4) (q0 := 0) rfl rfl) rfl hl.1 rfl (Nat.le_of_ble_eq_true rfl) d_Mod_readText_171 ⟨Nat.zero_le _, Nat.zero_le _⟩ (fun H locs hP hD hS => ?_)
            obtain ⟨s_171, e_171⟩ : ∃ z : MS, z = (mExp s2 10).2 := ⟨_, rfl⟩
            have i_171 : mInv s_171 := by rw [e_171]; exact inv_exp hv (by decide)
            have hP : va_P D vwCl (mdW bd ce s_171) H := by rw [e_171]; exact hP
            have hD : va_D A (mdW bd ce s_171) := by rw [e_171]; exact hD
            refine lv_pop hx hb d_Mod_readText_174 rfl ?_
            refine lv_aload_n hx hb d_Mod_readText_175 rfl (lv_at hl 0 rfl) ?_
            refine va_get (D := D) (ci := 4) (v := .int (gR s_171 4)) (C := "HeadDeskModel") (T := F_Mod) (N := 38) hx hb hts a_Mod hown hX.1 hP 0 rfl rfl 5 (by decide) (hts _ m_2_222) (fun _ h9 => h9) rfl d_Mod_readText_176 ?_
            refine lv_if_ne (tgt := 202) hx hb d_Mod_readText_179 (by decide) (fun c_179 => ?_) (fun c_179 => ?_)
            · skip
              have c_179 : ¬ (gR s_171 4 = 0) := c_179
              refine lv_aload_n hx hb d_Mod_readText_202 rfl (lv_at hl 0 rfl) ?_
              refine lv_iconst (v := 0) hx hb d_Mod_readText_203 (by decide) ?_
              refine va_put (D := D) (ci := 4) (v := .int 0) (ty := .int) (C := "HeadDeskModel") (T := F_Mod) (N := 38) hx hb hts a_Mod t_Mod k_Mod n_Mod hown hX.1 hP hD hS 0 rfl rfl 2 (by decide) (hts _ m_2_219) (fun _ h9 => h9) rfl (by decide +kernel) rfl rfl (Nat.le_of_ble_eq_true rfl) d_Mod_readText_204 (fun H locs hP hD hS => ?_)
              have hP : va_P D vwCl (mdW bd ce (wR s_171 1 0)) H := hP
              have hD : va_D A (mdW bd ce (wR s_171 1 0)) := hD
              obtain ⟨s_204, e_204⟩ : ∃ z : MS, z = wR s_171 1 0 := ⟨_, rfl⟩
              have hP : va_P D vwCl (mdW bd ce s_204) H := by rw [e_204]; exact hP
              have hD : va_D A (mdW bd ce s_204) := by rw [e_204]; exact hD
              refine lv_aload_n hx hb d_Mod_readText_207 rfl (lv_at hl 0 rfl) ?_
              refine lv_aload_n hx hb d_Mod_readText_208 rfl (lv_at hl 0 rfl) ?_
              refine va_get (D := D) (ci := 4) (v := .int (gR s_204 4)) (C := "HeadDeskModel") (T := F_Mod) (N := 38) hx hb hts a_Mod hown hX.1 hP 0 rfl rfl 5 (by decide) (hts _ m_2_222) (fun _ h9 => h9) rfl d_Mod_readText_209 ?_
              refine lv_if_eq (tgt := 222) hx hb d_Mod_readText_212 (by decide) (fun c_212 => ?_) (fun c_212 => ?_)
              · skip
                have c_212 : (gR s_204 4 = 0) := c_212
                refine lv_iconst (v := (-1)) hx hb d_Mod_readText_222 (by decide) ?_
                refine va_put (D := D) (ci := 4) (v := .int (-1)) (ty := .int) (C := "HeadDeskModel") (T := F_Mod) (N := 38) hx hb hts a_Mod t_Mod k_Mod n_Mod hown hX.1 hP hD hS 0 rfl rfl 3 (by decide) (hts _ m_2_220) (fun _ h9 => h9) rfl (by decide +kernel) rfl rfl (Nat.le_of_ble_eq_true rfl) d_Mod_readText_223 (fun H locs hP hD hS => ?_)
                have hP : va_P D vwCl (mdW bd ce (wR s_204 2 (-1))) H := hP
                have hD : va_D A (mdW bd ce (wR s_204 2 (-1))) := hD
                obtain ⟨s_223, e_223⟩ : ∃ z : MS, z = wR s_204 2 (-1) := ⟨_, rfl⟩
                have hP : va_P D vwCl (mdW bd ce s_223) H := by rw [e_223]; exact hP
                have hD : va_D A (mdW bd ce s_223) := by rw [e_223]; exact hD
                refine lv_aload_n hx hb d_Mod_readText_226 rfl (lv_at hl 0 rfl) ?_
                refine va_get (D := D) (ci := 4) (v := .int (gR s_223 4)) (C := "HeadDeskModel") (T := F_Mod) (N := 38) hx hb hts a_Mod hown hX.1 hP 0 rfl rfl 5 (by decide) (hts _ m_2_222) (fun _ h9 => h9) rfl d_Mod_readText_227 ?_
                refine lv_if_ne (tgt := 237) hx hb d_Mod_readText_230 (by decide) (fun c_230 => ?_) (fun c_230 => ?_)
                · skip
                  have c_230 : ¬ (gR s_223 4 = 0) := c_230
                  refine lv_iconst (v := 0) hx hb d_Mod_readText_237 (by decide) ?_
                  exact hret H locs s_223 false _ _ hP hD hS (pr2 (by rw [hF]; (try simp only [mTxtL, if_neg c_148, if_neg c_179, if_pos c_212, if_neg c_230, ← e_171, ← e_204, ← e_223, if_true, if_false, Bool.false_eq_true, ↓reduceIte]) <;> (try simp only [mTxtE, if_neg c_148, if_neg c_179, if_pos c_212, if_neg c_230, ← e_171, ← e_204, ← e_223, if_true, if_false, Bool.false_eq_true, ↓reduceIte]) <;> (try simp only [mTxtU, if_neg c_148, if_neg c_179, if_pos c_212, if_neg c_230, ← e_171, ← e_204, ← e_223, if_true, if_false, Bool.false_eq_true, ↓reduceIte]) <;> (try simp only [mTxtW, if_neg c_148, if_neg c_179, if_pos c_212, if_neg c_230, ← e_171, ← e_204, ← e_223, if_true, if_false, Bool.false_eq_true, ↓reduceIte]) <;> (try simp only [mTxtX, if_neg c_148, if_neg c_179, if_pos c_212, if_neg c_230, ← e_171, ← e_204, ← e_223, if_true, if_false, Bool.false_eq_true, ↓reduceIte]) <;> (first | done | with_reducible rfl | rw [e_223]))) d_Mod_readText_238
                · skip
                  have c_230 : (gR s_223 4 = 0) := c_230
                  refine lv_iconst (v := 1) hx hb d_Mod_readText_233 (by decide) ?_
                  refine lv_goto (tgt := 238) hx hb d_Mod_readText_234 (by decide) ?_
                  exact hret H locs s_223 true _ _ hP hD hS (pr2 (by rw [hF]; (try simp only [mTxtL, if_neg c_148, if_neg c_179, if_pos c_212, if_pos c_230, ← e_171, ← e_204, ← e_223, if_true, if_false, Bool.false_eq_true, ↓reduceIte]) <;> (try simp only [mTxtE, if_neg c_148, if_neg c_179, if_pos c_212, if_pos c_230, ← e_171, ← e_204, ← e_223, if_true, if_false, Bool.false_eq_true, ↓reduceIte]) <;> (try simp only [mTxtU, if_neg c_148, if_neg c_179, if_pos c_212, if_pos c_230, ← e_171, ← e_204, ← e_223, if_true, if_false, Bool.false_eq_true, ↓reduceIte]) <;> (try simp only [mTxtW, if_neg c_148, if_neg c_179, if_pos c_212, if_pos c_230, ← e_171, ← e_204, ← e_223, if_true, if_false, Bool.false_eq_true, ↓reduceIte]) <;> (try simp only [mTxtX, if_neg c_148, if_neg c_179, if_pos c_212, if_pos c_230, ← e_171, ← e_204, ← e_223, if_true, if_false, Bool.false_eq_true, ↓reduceIte]) <;> (first | done | with_reducible rfl | rw [e_223]))) d_Mod_readText_238
              · skip
                have c_212 : ¬ (gR s_204 4 = 0) := c_212
                refine lv_aload_n hx hb d_Mod_readText_215 rfl (lv_at hl 0 rfl) ?_
                refine va_get (D := D) (ci := 4) (v := .int (gR s_204 5)) (C := "HeadDeskModel") (T := F_Mod) (N := 38) hx hb hts a_Mod hown hX.1 hP 0 rfl rfl 6 (by decide) (hts _ m_2_223) (fun _ h9 => h9) rfl d_Mod_readText_216 ?_
                refine lv_goto (tgt := 223) hx hb d_Mod_readText_219 (by decide) ?_
                refine va_put (D := D) (ci := 4) (v := .int (gR s_204 5)) (ty := .int) (C := "HeadDeskModel") (T := F_Mod) (N := 38) hx hb hts a_Mod t_Mod k_Mod n_Mod hown hX.1 hP hD hS 0 rfl rfl 3 (by decide) (hts _ m_2_220) (fun _ h9 => h9) rfl (by decide +kernel) rfl rfl (Nat.le_of_ble_eq_true rfl) d_Mod_readText_223 (fun H locs hP hD hS => ?_)
                have hP : va_P D vwCl (mdW bd ce (wR s_204 2 (gR s_204 5))) H := hP
                have hD : va_D A (mdW bd ce (wR s_204 2 (gR s_204 5))) := hD
                obtain ⟨s_223, e_223⟩ : ∃ z : MS, z = wR s_204 2 (gR s_204 5) := ⟨_, rfl⟩
                have hP : va_P D vwCl (mdW bd ce s_223) H := by rw [e_223]; exact hP
                have hD : va_D A (mdW bd ce s_223) := by rw [e_223]; exact hD
                refine lv_aload_n hx hb d_Mod_readText_226 rfl (lv_at hl 0 rfl) ?_
                refine va_get (D := D) (ci := 4) (v := .int (gR s_223 4)) (C := "HeadDeskModel") (T := F_Mod) (N := 38) hx hb hts a_Mod hown hX.1 hP 0 rfl rfl 5 (by decide) (hts _ m_2_222) (fun _ h9 => h9) rfl d_Mod_readText_227 ?_
                refine lv_if_ne (tgt := 237) hx hb d_Mod_readText_230 (by decide) (fun c_230 => ?_) (fun c_230 => ?_)
                · skip
                  have c_230 : ¬ (gR s_223 4 = 0) := c_230
                  refine lv_iconst (v := 0) hx hb d_Mod_readText_237 (by decide) ?_
                  exact hret H locs s_223 false _ _ hP hD hS (pr2 (by rw [hF]; (try simp only [mTxtL, if_neg c_148, if_neg c_179, if_neg c_212, if_neg c_230, ← e_171, ← e_204, ← e_223, if_true, if_false, Bool.false_eq_true, ↓reduceIte]) <;> (try simp only [mTxtE, if_neg c_148, if_neg c_179, if_neg c_212, if_neg c_230, ← e_171, ← e_204, ← e_223, if_true, if_false, Bool.false_eq_true, ↓reduceIte]) <;> (try simp only [mTxtU, if_neg c_148, if_neg c_179, if_neg c_212, if_neg c_230, ← e_171, ← e_204, ← e_223, if_true, if_false, Bool.false_eq_true, ↓reduceIte]) <;> (try simp only [mTxtW, if_neg c_148, if_neg c_179, if_neg c_212, if_neg c_230, ← e_171, ← e_204, ← e_223, if_true, if_false, Bool.false_eq_true, ↓reduceIte]) <;> (try simp only [mTxtX, if_neg c_148, if_neg c_179, if_neg c_212, if_neg c_230, ← e_171, ← e_204, ← e_223, if_true, if_false, Bool.false_eq_true, ↓reduceIte]) <;> (first | done | with_reducible rfl | rw [e_223]))) d_Mod_readText_238
                · skip
                  have c_230 : (gR s_223 4 = 0) := c_230
                  refine lv_iconst (v := 1) hx hb d_Mod_readText_233 (by decide) ?_
                  refine lv_goto (tgt := 238) hx hb d_Mod_readText_234 (by decide) ?_
                  exact hret H locs s_223 true _ _ hP hD hS (pr2 (by rw [hF]; (try simp only [mTxtL, if_neg c_148, if_neg c_179, if_neg c_212, if_pos c_230, ← e_171, ← e_204, ← e_223, if_true, if_false, Bool.false_eq_true, ↓reduceIte]) <;> (try simp only [mTxtE, if_neg c_148, if_neg c_179, if_neg c_212, if_pos c_230, ← e_171, ← e_204, ← e_223, if_true, if_false, Bool.false_eq_true, ↓reduceIte]) <;> (try simp only [mTxtU, if_neg c_148, if_neg c_179, if_neg c_212, if_pos c_230, ← e_171, ← e_204, ← e_223, if_true, if_false, Bool.false_eq_true, ↓reduceIte]) <;> (try simp only [mTxtW, if_neg c_148, if_neg c_179, if_neg c_212, if_pos c_230, ← e_171, ← e_204, ← e_223, if_true, if_false, Bool.false_eq_true, ↓reduceIte]) <;> (try simp only [mTxtX, if_neg c_148, if_neg c_179, if_neg c_212, if_pos c_230, ← e_171, ← e_204, ← e_223, if_true, if_false, Bool.false_eq_true, ↓reduceIte]) <;> (first | done | with_reducible rfl | rw [e_223]))) d_Mod_readText_238
            · skip
              have c_179 : (gR s_171 4 = 0) := c_179
              refine lv_aload_n hx hb d_Mod_readText_182 rfl (lv_at hl 0 rfl) ?_
              refine va_get (D := D) (ci := 4) (v := .int (gR s_171 3)) (C := "HeadDeskModel") (T := F_Mod) (N := 38) hx hb hts a_Mod hown hX.1 hP 0 rfl rfl 4 (by decide) (hts _ m_2_221) (fun _ h9 => h9) rfl d_Mod_readText_183 ?_
              refine lv_aload_n hx hb d_Mod_readText_186 rfl (lv_at hl 0 rfl) ?_
              refine va_get (D := D) (ci := 4) (v := .int (gR s_171 1)) (C := "HeadDeskModel") (T := F_Mod) (N := 38) hx hb hts a_Mod hown hX.1 hP 0 rfl rfl 2 (by decide) (hts _ m_2_219) (fun _ h9 => h9) rfl d_Mod_readText_187 ?_
              refine lv_icmp_ge (tgt := 202) hx hb d_Mod_readText_190 (by decide) (fun c_190 => ?_) (fun c_190 => ?_)
              · skip
                have c_190 : (gR s_171 1 ≤ gR s_171 3) := c_190
                refine lv_aload_n hx hb d_Mod_readText_202 rfl (lv_at hl 0 rfl) ?_
                refine lv_iconst (v := 0) hx hb d_Mod_readText_203 (by decide) ?_
                refine va_put (D := D) (ci := 4) (v := .int 0) (ty := .int) (C := "HeadDeskModel") (T := F_Mod) (N := 38) hx hb hts a_Mod t_Mod k_Mod n_Mod hown hX.1 hP hD hS 0 rfl rfl 2 (by decide) (hts _ m_2_219) (fun _ h9 => h9) rfl (by decide +kernel) rfl rfl (Nat.le_of_ble_eq_true rfl) d_Mod_readText_204 (fun H locs hP hD hS => ?_)
                have hP : va_P D vwCl (mdW bd ce (wR s_171 1 0)) H := hP
                have hD : va_D A (mdW bd ce (wR s_171 1 0)) := hD
                obtain ⟨s_204, e_204⟩ : ∃ z : MS, z = wR s_171 1 0 := ⟨_, rfl⟩
                have hP : va_P D vwCl (mdW bd ce s_204) H := by rw [e_204]; exact hP
                have hD : va_D A (mdW bd ce s_204) := by rw [e_204]; exact hD
                refine lv_aload_n hx hb d_Mod_readText_207 rfl (lv_at hl 0 rfl) ?_
                refine lv_aload_n hx hb d_Mod_readText_208 rfl (lv_at hl 0 rfl) ?_
                refine va_get (D := D) (ci := 4) (v := .int (gR s_204 4)) (C := "HeadDeskModel") (T := F_Mod) (N := 38) hx hb hts a_Mod hown hX.1 hP 0 rfl rfl 5 (by decide) (hts _ m_2_222) (fun _ h9 => h9) rfl d_Mod_readText_209 ?_
                refine lv_if_eq (tgt := 222) hx hb d_Mod_readText_212 (by decide) (fun c_212 => ?_) (fun c_212 => ?_)
                · skip
                  have c_212 : (gR s_204 4 = 0) := c_212
                  refine lv_iconst (v := (-1)) hx hb d_Mod_readText_222 (by decide) ?_
                  refine va_put (D := D) (ci := 4) (v := .int (-1)) (ty := .int) (C := "HeadDeskModel") (T := F_Mod) (N := 38) hx hb hts a_Mod t_Mod k_Mod n_Mod hown hX.1 hP hD hS 0 rfl rfl 3 (by decide) (hts _ m_2_220) (fun _ h9 => h9) rfl (by decide +kernel) rfl rfl (Nat.le_of_ble_eq_true rfl) d_Mod_readText_223 (fun H locs hP hD hS => ?_)
                  have hP : va_P D vwCl (mdW bd ce (wR s_204 2 (-1))) H := hP
                  have hD : va_D A (mdW bd ce (wR s_204 2 (-1))) := hD
                  obtain ⟨s_223, e_223⟩ : ∃ z : MS, z = wR s_204 2 (-1) := ⟨_, rfl⟩
                  have hP : va_P D vwCl (mdW bd ce s_223) H := by rw [e_223]; exact hP
                  have hD : va_D A (mdW bd ce s_223) := by rw [e_223]; exact hD
                  refine lv_aload_n hx hb d_Mod_readText_226 rfl (lv_at hl 0 rfl) ?_
                  refine va_get (D := D) (ci := 4) (v := .int (gR s_223 4)) (C := "HeadDeskModel") (T := F_Mod) (N := 38) hx hb hts a_Mod hown hX.1 hP 0 rfl rfl 5 (by decide) (hts _ m_2_222) (fun _ h9 => h9) rfl d_Mod_readText_227 ?_
                  refine lv_if_ne (tgt := 237) hx hb d_Mod_readText_230 (by decide) (fun c_230 => ?_) (fun c_230 => ?_)
                  · skip
                    have c_230 : ¬ (gR s_223 4 = 0) := c_230
                    refine lv_iconst (v := 0) hx hb d_Mod_readText_237 (by decide) ?_
                    exact hret H locs s_223 false _ _ hP hD hS (pr2 (by rw [hF]; (try simp only [mTxtL, if_neg c_148, if_pos c_179, if_pos c_190, if_pos c_212, if_neg c_230, ← e_171, ← e_204, ← e_223, if_true, if_false, Bool.false_eq_true, ↓reduceIte]) <;> (try simp only [mTxtE, if_neg c_148, if_pos c_179, if_pos c_190, if_pos c_212, if_neg c_230, ← e_171, ← e_204, ← e_223, if_true, if_false, Bool.false_eq_true, ↓reduceIte]) <;> (try simp only [mTxtU, if_neg c_148, if_pos c_179, if_pos c_190, if_pos c_212, if_neg c_230, ← e_171, ← e_204, ← e_223, if_true, if_false, Bool.false_eq_true, ↓reduceIte]) <;> (try simp only [mTxtW, if_neg c_148, if_pos c_179, if_pos c_190, if_pos c_212, if_neg c_230, ← e_171, ← e_204, ← e_223, if_true, if_false, Bool.false_eq_true, ↓reduceIte]) <;> (try simp only [mTxtX, if_neg c_148, if_pos c_179, if_pos c_190, if_pos c_212, if_neg c_230, ← e_171, ← e_204, ← e_223, if_true, if_false, Bool.false_eq_true, ↓reduceIte]) <;> (first | done | with_reducible rfl | rw [e_223]))) d_Mod_readText_238
                  · skip
                    have c_230 : (gR s_223 4 = 0) := c_230
                    refine lv_iconst (v := 1) hx hb d_Mod_readText_233 (by decide) ?_
                    refine lv_goto (tgt := 238) hx hb d_Mod_readText_234 (by decide) ?_
                    exact hret H locs s_223 true _ _ hP hD hS (pr2 (by rw [hF]; (try simp only [mTxtL, if_neg c_148, if_pos c_179, if_pos c_190, if_pos c_212, if_pos c_230, ← e_171, ← e_204, ← e_223, if_true, if_false, Bool.false_eq_true, ↓reduceIte]) <;> (try simp only [mTxtE, if_neg c_148, if_pos c_179, if_pos c_190, if_pos c_212, if_pos c_230, ← e_171, ← e_204, ← e_223, if_true, if_false, Bool.false_eq_true, ↓reduceIte]) <;> (try simp only [mTxtU, if_neg c_148, if_pos c_179, if_pos c_190, if_pos c_212, if_pos c_230, ← e_171, ← e_204, ← e_223, if_true, if_false, Bool.false_eq_true, ↓reduceIte]) <;> (try simp only [mTxtW, if_neg c_148, if_pos c_179, if_pos c_190, if_pos c_212, if_pos c_230, ← e_171, ← e_204, ← e_223, if_true, if_false, Bool.false_eq_true, ↓reduceIte]) <;> (try simp only [mTxtX, if_neg c_148, if_pos c_179, if_pos c_190, if_pos c_212, if_pos c_230, ← e_171, ← e_204, ← e_223, if_true, if_false, Bool.false_eq_true, ↓reduceIte]) <;> (first | done | with_reducible rfl | rw [e_223]))) d_Mod_readText_238
                · skip
                  have c_212 : ¬ (gR s_204 4 = 0) := c_212
                  refine lv_aload_n hx hb d_Mod_readText_215 rfl (lv_at hl 0 rfl) ?_
                  refine va_get (D := D) (ci := 4) (v := .int (gR s_204 5)) (C := "HeadDeskModel") (T := F_Mod) (N := 38) hx hb hts a_Mod hown hX.1 hP 0 rfl rfl 6 (by decide) (hts _ m_2_223) (fun _ h9 => h9) rfl d_Mod_readText_216 ?_
                  refine lv_goto (tgt := 223) hx hb d_Mod_readText_219 (by decide) ?_
                  refine va_put (D := D) (ci := 4) (v := .int (gR s_204 5)) (ty := .int) (C := "HeadDeskModel") (T := F_Mod) (N := 38) hx hb hts a_Mod t_Mod k_Mod n_Mod hown hX.1 hP hD hS 0 rfl rfl 3 (by decide) (hts _ m_2_220) (fun _ h9 => h9) rfl (by decide +kernel) rfl rfl (Nat.le_of_ble_eq_true rfl) d_Mod_readText_223 (fun H locs hP hD hS => ?_)
                  have hP : va_P D vwCl (mdW bd ce (wR s_204 2 (gR s_204 5))) H := hP
                  have hD : va_D A (mdW bd ce (wR s_204 2 (gR s_204 5))) := hD
                  obtain ⟨s_223, e_223⟩ : ∃ z : MS, z = wR s_204 2 (gR s_204 5) := ⟨_, rfl⟩
                  have hP : va_P D vwCl (mdW bd ce s_223) H := by rw [e_223]; exact hP
                  have hD : va_D A (mdW bd ce s_223) := by rw [e_223]; exact hD
                  refine lv_aload_n hx hb d_Mod_readText_226 rfl (lv_at hl 0 rfl) ?_
                  refine va_get (D := D) (ci := 4) (v := .int (gR s_223 4)) (C := "HeadDeskModel") (T := F_Mod) (N := 38) hx hb hts a_Mod hown hX.1 hP 0 rfl rfl 5 (by decide) (hts _ m_2_222) (fun _ h9 => h9) rfl d_Mod_readText_227 ?_
                  refine lv_if_ne (tgt := 237) hx hb d_Mod_readText_230 (by decide) (fun c_230 => ?_) (fun c_230 => ?_)
                  · skip
                    have c_230 : ¬ (gR s_223 4 = 0) := c_230
                    refine lv_iconst (v := 0) hx hb d_Mod_readText_237 (by decide) ?_
                    exact hret H locs s_223 false _ _ hP hD hS (pr2 (by rw [hF]; (try simp only [mTxtL, if_neg c_148, if_pos c_179, if_pos c_190, if_neg c_212, if_neg c_230, ← e_171, ← e_204, ← e_223, if_true, if_false, Bool.false_eq_true, ↓reduceIte]) <;> (try simp only [mTxtE, if_neg c_148, if_pos c_179, if_pos c_190, if_neg c_212, if_neg c_230, ← e_171, ← e_204, ← e_223, if_true, if_false, Bool.false_eq_true, ↓reduceIte]) <;> (try simp only [mTxtU, if_neg c_148, if_pos c_179, if_pos c_190, if_neg c_212, if_neg c_230, ← e_171, ← e_204, ← e_223, if_true, if_false, Bool.false_eq_true, ↓reduceIte]) <;> (try simp only [mTxtW, if_neg c_148, if_pos c_179, if_pos c_190, if_neg c_212, if_neg c_230, ← e_171, ← e_204, ← e_223, if_true, if_false, Bool.false_eq_true, ↓reduceIte]) <;> (try simp only [mTxtX, if_neg c_148, if_pos c_179, if_pos c_190, if_neg c_212, if_neg c_230, ← e_171, ← e_204, ← e_223, if_true, if_false, Bool.false_eq_true, ↓reduceIte]) <;> (first | done | with_reducible rfl | rw [e_223]))) d_Mod_readText_238
                  · skip
                    have c_230 : (gR s_223 4 = 0) := c_230
                    refine lv_iconst (v := 1) hx hb d_Mod_readText_233 (by decide) ?_
                    refine lv_goto (tgt := 238) hx hb d_Mod_readText_234 (by decide) ?_
                    exact hret H locs s_223 true _ _ hP hD hS (pr2 (by rw [hF]; (try simp only [mTxtL, if_neg c_148, if_pos c_179, if_pos c_190, if_neg c_212, if_pos c_230, ← e_171, ← e_204, ← e_223, if_true, if_false, Bool.false_eq_true, ↓reduceIte]) <;> (try simp only [mTxtE, if_neg c_148, if_pos c_179, if_pos c_190, if_neg c_212, if_pos c_230, ← e_171, ← e_204, ← e_223, if_true, if_false, Bool.false_eq_true, ↓reduceIte]) <;> (try simp only [mTxtU, if_neg c_148, if_pos c_179, if_pos c_190, if_neg c_212, if_pos c_230, ← e_171, ← e_204, ← e_223, if_true, if_false, Bool.false_eq_true, ↓reduceIte]) <;> (try simp only [mTxtW, if_neg c_148, if_pos c_179, if_pos c_190, if_neg c_212, if_pos c_230, ← e_171, ← e_204, ← e_223, if_true, if_false, Bool.false_eq_true, ↓reduceIte]) <;> (try simp only [mTxtX, if_neg c_148, if_pos c_179, if_pos c_190, if_neg c_212, if_pos c_230, ← e_171, ← e_204, ← e_223, if_true, if_false, Bool.false_eq_true, ↓reduceIte]) <;> (first | done | with_reducible rfl | rw [e_223]))) d_Mod_readText_238
              · skip
                have c_190 : ¬ (gR s_171 1 ≤ gR s_171 3) := c_190
                refine lv_aload_n hx hb d_Mod_readText_193 rfl (lv_at hl 0 rfl) ?_
                refine lv_aload_n hx hb d_Mod_readText_194 rfl (lv_at hl 0 rfl) ?_
                refine va_get (D := D) (ci := 4) (v := .int (gR s_171 3)) (C := "HeadDeskModel") (T := F_Mod) (N := 38) hx hb hts a_Mod hown hX.1 hP 0 rfl rfl 4 (by decide) (hts _ m_2_221) (fun _ h9 => h9) rfl d_Mod_readText_195 ?_
                refine hx_Vz (wr := []) (As := [.int (gR s_171 3)]) (rest := []) hI (c_Mod_wrong s_171 i_171 (gR s_171 3)) (cw_V (C := "HeadDeskModel") 1 hts m_3_124 m_3_126 ms_29 m_1_5 m_3_127 (by decide +kernel) ⟨by decide, by decide⟩) hX hA hP hD hS [0, 1, 2, 3, 4, 5, 6] [] rfl rfl (by decide) (by decide) (by decide) (va_recv hX.1 hP (ci := 4) (q0 := 0) rfl rfl) rfl hl.1 rfl (Nat.le_of_ble_eq_true rfl) d_Mod_readText_198 ⟨Nat.zero_le _, Nat.zero_le _⟩ (fun H locs hP hD hS => ?_)
                obtain ⟨s_198, e_198⟩ : ∃ z : MS, z = mWr s_171 (gR s_171 3) := ⟨_, rfl⟩
                have i_198 : mInv s_198 := by rw [e_198]; exact inv_wr i_171
                have hP : va_P D vwCl (mdW bd ce s_198) H := by rw [e_198]; exact hP
                have hD : va_D A (mdW bd ce s_198) := by rw [e_198]; exact hD
                refine lv_pop hx hb d_Mod_readText_201 rfl ?_
                refine lv_aload_n hx hb d_Mod_readText_202 rfl (lv_at hl 0 rfl) ?_
                refine lv_iconst (v := 0) hx hb d_Mod_readText_203 (by decide) ?_
                refine va_put (D := D) (ci := 4) (v := .int 0) (ty := .int) (C := "HeadDeskModel") (T := F_Mod) (N := 38) hx hb hts a_Mod t_Mod k_Mod n_Mod hown hX.1 hP hD hS 0 rfl rfl 2 (by decide) (hts _ m_2_219) (fun _ h9 => h9) rfl (by decide +kernel) rfl rfl (Nat.le_of_ble_eq_true rfl) d_Mod_readText_204 (fun H locs hP hD hS => ?_)
                have hP : va_P D vwCl (mdW bd ce (wR s_198 1 0)) H := hP
                have hD : va_D A (mdW bd ce (wR s_198 1 0)) := hD
                obtain ⟨s_204, e_204⟩ : ∃ z : MS, z = wR s_198 1 0 := ⟨_, rfl⟩
                have hP : va_P D vwCl (mdW bd ce s_204) H := by rw [e_204]; exact hP
                have hD : va_D A (mdW bd ce s_204) := by rw [e_204]; exact hD
                refine lv_aload_n hx hb d_Mod_readText_207 rfl (lv_at hl 0 rfl) ?_
                refine lv_aload_n hx hb d_Mod_readText_208 rfl (lv_at hl 0 rfl) ?_
                refine va_get (D := D) (ci := 4) (v := .int (gR s_204 4)) (C := "HeadDeskModel") (T := F_Mod) (N := 38) hx hb hts a_Mod hown hX.1 hP 0 rfl rfl 5 (by decide) (hts _ m_2_222) (fun _ h9 => h9) rfl d_Mod_readText_209 ?_
                refine lv_if_eq (tgt := 222) hx hb d_Mod_readText_212 (by decide) (fun c_212 => ?_) (fun c_212 => ?_)
                · skip
                  have c_212 : (gR s_204 4 = 0) := c_212
                  refine lv_iconst (v := (-1)) hx hb d_Mod_readText_222 (by decide) ?_
                  refine va_put (D := D) (ci := 4) (v := .int (-1)) (ty := .int) (C := "HeadDeskModel") (T := F_Mod) (N := 38) hx hb hts a_Mod t_Mod k_Mod n_Mod hown hX.1 hP hD hS 0 rfl rfl 3 (by decide) (hts _ m_2_220) (fun _ h9 => h9) rfl (by decide +kernel) rfl rfl (Nat.le_of_ble_eq_true rfl) d_Mod_readText_223 (fun H locs hP hD hS => ?_)
                  have hP : va_P D vwCl (mdW bd ce (wR s_204 2 (-1))) H := hP
                  have hD : va_D A (mdW bd ce (wR s_204 2 (-1))) := hD
                  obtain ⟨s_223, e_223⟩ : ∃ z : MS, z = wR s_204 2 (-1) := ⟨_, rfl⟩
                  have hP : va_P D vwCl (mdW bd ce s_223) H := by rw [e_223]; exact hP
                  have hD : va_D A (mdW bd ce s_223) := by rw [e_223]; exact hD
                  refine lv_aload_n hx hb d_Mod_readText_226 rfl (lv_at hl 0 rfl) ?_
                  refine va_get (D := D) (ci := 4) (v := .int (gR s_223 4)) (C := "HeadDeskModel") (T := F_Mod) (N := 38) hx hb hts a_Mod hown hX.1 hP 0 rfl rfl 5 (by decide) (hts _ m_2_222) (fun _ h9 => h9) rfl d_Mod_readText_227 ?_
                  refine lv_if_ne (tgt := 237) hx hb d_Mod_readText_230 (by decide) (fun c_230 => ?_) (fun c_230 => ?_)
                  · skip
                    have c_230 : ¬ (gR s_223 4 = 0) := c_230
                    refine lv_iconst (v := 0) hx hb d_Mod_readText_237 (by decide) ?_
                    exact hret H locs s_223 false _ _ hP hD hS (pr2 (by rw [hF]; (try simp only [mTxtL, if_neg c_148, if_pos c_179, if_neg c_190, if_pos c_212, if_neg c_230, ← e_171, ← e_198, ← e_204, ← e_223, if_true, if_false, Bool.false_eq_true, ↓reduceIte]) <;> (try simp only [mTxtE, if_neg c_148, if_pos c_179, if_neg c_190, if_pos c_212, if_neg c_230, ← e_171, ← e_198, ← e_204, ← e_223, if_true, if_false, Bool.false_eq_true, ↓reduceIte]) <;> (try simp only [mTxtU, if_neg c_148, if_pos c_179, if_neg c_190, if_pos c_212, if_neg c_230, ← e_171, ← e_198, ← e_204, ← e_223, if_true, if_false, Bool.false_eq_true, ↓reduceIte]) <;> (try simp only [mTxtW, if_neg c_148, if_pos c_179, if_neg c_190, if_pos c_212, if_neg c_230, ← e_171, ← e_198, ← e_204, ← e_223, if_true, if_false, Bool.false_eq_true, ↓reduceIte]) <;> (try simp only [mTxtX, if_neg c_148, if_pos c_179, if_neg c_190, if_pos c_212, if_neg c_230, ← e_171, ← e_198, ← e_204, ← e_223, if_true, if_false, Bool.false_eq_true, ↓reduceIte]) <;> (first | done | with_reducible rfl | rw [e_223]))) d_Mod_readText_238
                  · skip
                    have c_230 : (gR s_223 4 = 0) := c_230
                    refine lv_iconst (v := 1) hx hb d_Mod_readText_233 (by decide) ?_
                    refine lv_goto (tgt := 238) hx hb d_Mod_readText_234 (by decide) ?_
                    exact hret H locs s_223 true _ _ hP hD hS (pr2 (by rw [hF]; (try simp only [mTxtL, if_neg c_148, if_pos c_179, if_neg c_190, if_pos c_212, if_pos c_230, ← e_171, ← e_198, ← e_204, ← e_223, if_true, if_false, Bool.false_eq_true, ↓reduceIte]) <;> (try simp only [mTxtE, if_neg c_148, if_pos c_179, if_neg c_190, if_pos c_212, if_pos c_230, ← e_171, ← e_198, ← e_204, ← e_223, if_true, if_false, Bool.false_eq_true, ↓reduceIte]) <;> (try simp only [mTxtU, if_neg c_148, if_pos c_179, if_neg c_190, if_pos c_212, if_pos c_230, ← e_171, ← e_198, ← e_204, ← e_223, if_true, if_false, Bool.false_eq_true, ↓reduceIte]) <;> (try simp only [mTxtW, if_neg c_148, if_pos c_179, if_neg c_190, if_pos c_212, if_pos c_230, ← e_171, ← e_198, ← e_204, ← e_223, if_true, if_false, Bool.false_eq_true, ↓reduceIte]) <;> (try simp only [mTxtX, if_neg c_148, if_pos c_179, if_neg c_190, if_pos c_212, if_pos c_230, ← e_171, ← e_198, ← e_204, ← e_223, if_true, if_false, Bool.false_eq_true, ↓reduceIte]) <;> (first | done | with_reducible rfl | rw [e_223]))) d_Mod_readText_238
                · skip
                  have c_212 : ¬ (gR s_204 4 = 0) := c_212
                  refine lv_aload_n hx hb d_Mod_readText_215 rfl (lv_at hl 0 rfl) ?_
                  refine va_get (D := D) (ci := 4) (v := .int (gR s_204 5)) (C := "HeadDeskModel") (T := F_Mod) (N := 38) hx hb hts a_Mod hown hX.1 hP 0 rfl rfl 6 (by decide) (hts _ m_2_223) (fun _ h9 => h9) rfl d_Mod_readText_216 ?_
                  refine lv_goto (tgt := 223) hx hb d_Mod_readText_219 (by decide) ?_
                  refine va_put (D := D) (ci := 4) (v := .int (gR s_204 5)) (ty := .int) (C := "HeadDeskModel") (T := F_Mod) (N := 38) hx hb hts a_Mod t_Mod k_Mod n_Mod hown hX.1 hP hD hS 0 rfl rfl 3 (by decide) (hts _ m_2_220) (fun _ h9 => h9) rfl (by decide +kernel) rfl rfl (Nat.le_of_ble_eq_true rfl) d_Mod_readText_223 (fun H locs hP hD hS => ?_)
                  have hP : va_P D vwCl (mdW bd ce (wR s_204 2 (gR s_204 5))) H := hP
                  have hD : va_D A (mdW bd ce (wR s_204 2 (gR s_204 5))) := hD
                  obtain ⟨s_223, e_223⟩ : ∃ z : MS, z = wR s_204 2 (gR s_204 5) := ⟨_, rfl⟩
                  have hP : va_P D vwCl (mdW bd ce s_223) H := by rw [e_223]; exact hP
                  have hD : va_D A (mdW bd ce s_223) := by rw [e_223]; exact hD
                  refine lv_aload_n hx hb d_Mod_readText_226 rfl (lv_at hl 0 rfl) ?_
                  refine va_get (D := D) (ci := 4) (v := .int (gR s_223 4)) (C := "HeadDeskModel") (T := F_Mod) (N := 38) hx hb hts a_Mod hown hX.1 hP 0 rfl rfl 5 (by decide) (hts _ m_2_222) (fun _ h9 => h9) rfl d_Mod_readText_227 ?_
                  refine lv_if_ne (tgt := 237) hx hb d_Mod_readText_230 (by decide) (fun c_230 => ?_) (fun c_230 => ?_)
                  · skip
                    have c_230 : ¬ (gR s_223 4 = 0) := c_230
                    refine lv_iconst (v := 0) hx hb d_Mod_readText_237 (by decide) ?_
                    exact hret H locs s_223 false _ _ hP hD hS (pr2 (by rw [hF]; (try simp only [mTxtL, if_neg c_148, if_pos c_179, if_neg c_190, if_neg c_212, if_neg c_230, ← e_171, ← e_198, ← e_204, ← e_223, if_true, if_false, Bool.false_eq_true, ↓reduceIte]) <;> (try simp only [mTxtE, if_neg c_148, if_pos c_179, if_neg c_190, if_neg c_212, if_neg c_230, ← e_171, ← e_198, ← e_204, ← e_223, if_true, if_false, Bool.false_eq_true, ↓reduceIte]) <;> (try simp only [mTxtU, if_neg c_148, if_pos c_179, if_neg c_190, if_neg c_212, if_neg c_230, ← e_171, ← e_198, ← e_204, ← e_223, if_true, if_false, Bool.false_eq_true, ↓reduceIte]) <;> (try simp only [mTxtW, if_neg c_148, if_pos c_179, if_neg c_190, if_neg c_212, if_neg c_230, ← e_171, ← e_198, ← e_204, ← e_223, if_true, if_false, Bool.false_eq_true, ↓reduceIte]) <;> (try simp only [mTxtX, if_neg c_148, if_pos c_179, if_neg c_190, if_neg c_212, if_neg c_230, ← e_171, ← e_198, ← e_204, ← e_223, if_true, if_false, Bool.false_eq_true, ↓reduceIte]) <;> (first | done | with_reducible rfl | rw [e_223]))) d_Mod_readText_238
                  · skip
                    have c_230 : (gR s_223 4 = 0) := c_230
                    refine lv_iconst (v := 1) hx hb d_Mod_readText_233 (by decide) ?_
                    refine lv_goto (tgt := 238) hx hb d_Mod_readText_234 (by decide) ?_
                    exact hret H locs s_223 true _ _ hP hD hS (pr2 (by rw [hF]; (try simp only [mTxtL, if_neg c_148, if_pos c_179, if_neg c_190, if_neg c_212, if_pos c_230, ← e_171, ← e_198, ← e_204, ← e_223, if_true, if_false, Bool.false_eq_true, ↓reduceIte]) <;> (try simp only [mTxtE, if_neg c_148, if_pos c_179, if_neg c_190, if_neg c_212, if_pos c_230, ← e_171, ← e_198, ← e_204, ← e_223, if_true, if_false, Bool.false_eq_true, ↓reduceIte]) <;> (try simp only [mTxtU, if_neg c_148, if_pos c_179, if_neg c_190, if_neg c_212, if_pos c_230, ← e_171, ← e_198, ← e_204, ← e_223, if_true, if_false, Bool.false_eq_true, ↓reduceIte]) <;> (try simp only [mTxtW, if_neg c_148, if_pos c_179, if_neg c_190, if_neg c_212, if_pos c_230, ← e_171, ← e_198, ← e_204, ← e_223, if_true, if_false, Bool.false_eq_true, ↓reduceIte]) <;> (try simp only [mTxtX, if_neg c_148, if_pos c_179, if_neg c_190, if_neg c_212, if_pos c_230, ← e_171, ← e_198, ← e_204, ← e_223, if_true, if_false, Bool.false_eq_true, ↓reduceIte]) <;> (first | done | with_reducible rfl | rw [e_223]))) d_Mod_readText_238
          · skip
            exact absurd (hk c_148) (fun q => li_1 hv q)
        | succ k ih =>
          intro s2 H locs ls hk hv hj hF hP hD hS hl
          refine lv_aload_n hx hb d_Mod_readText_144 rfl (lv_at hl 0 rfl) ?_
          refine va_get (D := D) (ci := 4) (v := .int (gR s2 4)) (C := "HeadDeskModel") (T := F_Mod) (N := 38) hx hb hts a_Mod hown hX.1 hP 0 rfl rfl 5 (by decide) (hts _ m_2_222) (fun _ h9 => h9) rfl d_Mod_readText_145 ?_
          refine lv_if_ne (tgt := 168) hx hb d_Mod_readText_148 (by decide) (fun c_148 => ?_) (fun c_148 => ?_)
          · skip
            have c_148 : ¬ (gR s2 4 = 0) := c_148
            refine lv_aload_n hx hb d_Mod_readText_168 rfl (lv_at hl 0 rfl) ?_
            refine lv_bipush (v := 10) hx hb d_Mod_readText_169 (by decide) ?_
            refine hx_Vz (wr := []) (As := [.int 10]) (rest := []) hI (c_Mod_expect s2 hv 10 (by decide)) (cw_V (C := "HeadDeskModel") 1 hts m_3_120 m_3_122 ms_28 m_1_5 m_3_123 (by decide +kernel) ⟨by decide, by decide⟩) hX hA hP hD hS [0, 1, 2, 3, 4, 5, 6] [] rfl rfl (by decide) (by decide) (by decide) (va_recv hX.1 hP (ci := 4) (q0 := 0) rfl rfl) rfl hl.1 rfl (Nat.le_of_ble_eq_true rfl) d_Mod_readText_171 ⟨Nat.zero_le _, Nat.zero_le _⟩ (fun H locs hP hD hS => ?_)
            obtain ⟨s_171, e_171⟩ : ∃ z : MS, z = (mExp s2 10).2 := ⟨_, rfl⟩
            have i_171 : mInv s_171 := by rw [e_171]; exact inv_exp hv (by decide)
            have hP : va_P D vwCl (mdW bd ce s_171) H := by rw [e_171]; exact hP
            have hD : va_D A (mdW bd ce s_171) := by rw [e_171]; exact hD
            refine lv_pop hx hb d_Mod_readText_174 rfl ?_
            refine lv_aload_n hx hb d_Mod_readText_175 rfl (lv_at hl 0 rfl) ?_
            refine va_get (D := D) (ci := 4) (v := .int (gR s_171 4)) (C := "HeadDeskModel") (T := F_Mod) (N := 38) hx hb hts a_Mod hown hX.1 hP 0 rfl rfl 5 (by decide) (hts _ m_2_222) (fun _ h9 => h9) rfl d_Mod_readText_176 ?_
            refine lv_if_ne (tgt := 202) hx hb d_Mod_readText_179 (by decide) (fun c_179 => ?_) (fun c_179 => ?_)
            · skip
              have c_179 : ¬ (gR s_171 4 = 0) := c_179
              refine lv_aload_n hx hb d_Mod_readText_202 rfl (lv_at hl 0 rfl) ?_
              refine lv_iconst (v := 0) hx hb d_Mod_readText_203 (by decide) ?_
              refine va_put (D := D) (ci := 4) (v := .int 0) (ty := .int) (C := "HeadDeskModel") (T := F_Mod) (N := 38) hx hb hts a_Mod t_Mod k_Mod n_Mod hown hX.1 hP hD hS 0 rfl rfl 2 (by decide) (hts _ m_2_219) (fun _ h9 => h9) rfl (by decide +kernel) rfl rfl (Nat.le_of_ble_eq_true rfl) d_Mod_readText_204 (fun H locs hP hD hS => ?_)
              have hP : va_P D vwCl (mdW bd ce (wR s_171 1 0)) H := hP
              have hD : va_D A (mdW bd ce (wR s_171 1 0)) := hD
              obtain ⟨s_204, e_204⟩ : ∃ z : MS, z = wR s_171 1 0 := ⟨_, rfl⟩
              have hP : va_P D vwCl (mdW bd ce s_204) H := by rw [e_204]; exact hP
              have hD : va_D A (mdW bd ce s_204) := by rw [e_204]; exact hD
              refine lv_aload_n hx hb d_Mod_readText_207 rfl (lv_at hl 0 rfl) ?_
              refine lv_aload_n hx hb d_Mod_readText_208 rfl (lv_at hl 0 rfl) ?_
              refine va_get (D := D) (ci := 4) (v := .int (gR s_204 4)) (C := "HeadDeskModel") (T := F_Mod) (N := 38) hx hb hts a_Mod hown hX.1 hP 0 rfl rfl 5 (by decide) (hts _ m_2_222) (fun _ h9 => h9) rfl d_Mod_readText_209 ?_
              refine lv_if_eq (tgt := 222) hx hb d_Mod_readText_212 (by decide) (fun c_212 => ?_) (fun c_212 => ?_)
              · skip
                have c_212 : (gR s_204 4 = 0) := c_212
                refine lv_iconst (v := (-1)) hx hb d_Mod_readText_222 (by decide) ?_
                refine va_put (D := D) (ci := 4) (v := .int (-1)) (ty := .int) (C := "HeadDeskModel") (T := F_Mod) (N := 38) hx hb hts a_Mod t_Mod k_Mod n_Mod hown hX.1 hP hD hS 0 rfl rfl 3 (by decide) (hts _ m_2_220) (fun _ h9 => h9) rfl (by decide +kernel) rfl rfl (Nat.le_of_ble_eq_true rfl) d_Mod_readText_223 (fun H locs hP hD hS => ?_)
                have hP : va_P D vwCl (mdW bd ce (wR s_204 2 (-1))) H := hP
                have hD : va_D A (mdW bd ce (wR s_204 2 (-1))) := hD
                obtain ⟨s_223, e_223⟩ : ∃ z : MS, z = wR s_204 2 (-1) := ⟨_, rfl⟩
                have hP : va_P D vwCl (mdW bd ce s_223) H := by rw [e_223]; exact hP
                have hD : va_D A (mdW bd ce s_223) := by rw [e_223]; exact hD
                refine lv_aload_n hx hb d_Mod_readText_226 rfl (lv_at hl 0 rfl) ?_
                refine va_get (D := D) (ci := 4) (v := .int (gR s_223 4)) (C := "HeadDeskModel") (T := F_Mod) (N := 38) hx hb hts a_Mod hown hX.1 hP 0 rfl rfl 5 (by decide) (hts _ m_2_222) (fun _ h9 => h9) rfl d_Mod_readText_227 ?_
                refine lv_if_ne (tgt := 237) hx hb d_Mod_readText_230 (by decide) (fun c_230 => ?_) (fun c_230 => ?_)
                · skip
                  have c_230 : ¬ (gR s_223 4 = 0) := c_230
                  refine lv_iconst (v := 0) hx hb d_Mod_readText_237 (by decide) ?_
                  exact hret H locs s_223 false _ _ hP hD hS (pr2 (by rw [hF]; (try simp only [mTxtL, if_neg c_148, if_neg c_179, if_pos c_212, if_neg c_230, ← e_171, ← e_204, ← e_223, if_true, if_false, Bool.false_eq_true, ↓reduceIte]) <;> (try simp only [mTxtE, if_neg c_148, if_neg c_179, if_pos c_212, if_neg c_230, ← e_171, ← e_204, ← e_223, if_true, if_false, Bool.false_eq_true, ↓reduceIte]) <;> (try simp only [mTxtU, if_neg c_148, if_neg c_179, if_pos c_212, if_neg c_230, ← e_171, ← e_204, ← e_223, if_true, if_false, Bool.false_eq_true, ↓reduceIte]) <;> (try simp only [mTxtW, if_neg c_148, if_neg c_179, if_pos c_212, if_neg c_230, ← e_171, ← e_204, ← e_223, if_true, if_false, Bool.false_eq_true, ↓reduceIte]) <;> (try simp only [mTxtX, if_neg c_148, if_neg c_179, if_pos c_212, if_neg c_230, ← e_171, ← e_204, ← e_223, if_true, if_false, Bool.false_eq_true, ↓reduceIte]) <;> (first | done | with_reducible rfl | rw [e_223]))) d_Mod_readText_238
                · skip
                  have c_230 : (gR s_223 4 = 0) := c_230
                  refine lv_iconst (v := 1) hx hb d_Mod_readText_233 (by decide) ?_
                  refine lv_goto (tgt := 238) hx hb d_Mod_readText_234 (by decide) ?_
                  exact hret H locs s_223 true _ _ hP hD hS (pr2 (by rw [hF]; (try simp only [mTxtL, if_neg c_148, if_neg c_179, if_pos c_212, if_pos c_230, ← e_171, ← e_204, ← e_223, if_true, if_false, Bool.false_eq_true, ↓reduceIte]) <;> (try simp only [mTxtE, if_neg c_148, if_neg c_179, if_pos c_212, if_pos c_230, ← e_171, ← e_204, ← e_223, if_true, if_false, Bool.false_eq_true, ↓reduceIte]) <;> (try simp only [mTxtU, if_neg c_148, if_neg c_179, if_pos c_212, if_pos c_230, ← e_171, ← e_204, ← e_223, if_true, if_false, Bool.false_eq_true, ↓reduceIte]) <;> (try simp only [mTxtW, if_neg c_148, if_neg c_179, if_pos c_212, if_pos c_230, ← e_171, ← e_204, ← e_223, if_true, if_false, Bool.false_eq_true, ↓reduceIte]) <;> (try simp only [mTxtX, if_neg c_148, if_neg c_179, if_pos c_212, if_pos c_230, ← e_171, ← e_204, ← e_223, if_true, if_false, Bool.false_eq_true, ↓reduceIte]) <;> (first | done | with_reducible rfl | rw [e_223]))) d_Mod_readText_238
              · skip
                have c_212 : ¬ (gR s_204 4 = 0) := c_212
                refine lv_aload_n hx hb d_Mod_readText_215 rfl (lv_at hl 0 rfl) ?_
                refine va_get (D := D) (ci := 4) (v := .int (gR s_204 5)) (C := "HeadDeskModel") (T := F_Mod) (N := 38) hx hb hts a_Mod hown hX.1 hP 0 rfl rfl 6 (by decide) (hts _ m_2_223) (fun _ h9 => h9) rfl d_Mod_readText_216 ?_
                refine lv_goto (tgt := 223) hx hb d_Mod_readText_219 (by decide) ?_
                refine va_put (D := D) (ci := 4) (v := .int (gR s_204 5)) (ty := .int) (C := "HeadDeskModel") (T := F_Mod) (N := 38) hx hb hts a_Mod t_Mod k_Mod n_Mod hown hX.1 hP hD hS 0 rfl rfl 3 (by decide) (hts _ m_2_220) (fun _ h9 => h9) rfl (by decide +kernel) rfl rfl (Nat.le_of_ble_eq_true rfl) d_Mod_readText_223 (fun H locs hP hD hS => ?_)
                have hP : va_P D vwCl (mdW bd ce (wR s_204 2 (gR s_204 5))) H := hP
                have hD : va_D A (mdW bd ce (wR s_204 2 (gR s_204 5))) := hD
                obtain ⟨s_223, e_223⟩ : ∃ z : MS, z = wR s_204 2 (gR s_204 5) := ⟨_, rfl⟩
                have hP : va_P D vwCl (mdW bd ce s_223) H := by rw [e_223]; exact hP
                have hD : va_D A (mdW bd ce s_223) := by rw [e_223]; exact hD
                refine lv_aload_n hx hb d_Mod_readText_226 rfl (lv_at hl 0 rfl) ?_
                refine va_get (D := D) (ci := 4) (v := .int (gR s_223 4)) (C := "HeadDeskModel") (T := F_Mod) (N := 38) hx hb hts a_Mod hown hX.1 hP 0 rfl rfl 5 (by decide) (hts _ m_2_222) (fun _ h9 => h9) rfl d_Mod_readText_227 ?_
                refine lv_if_ne (tgt := 237) hx hb d_Mod_readText_230 (by decide) (fun c_230 => ?_) (fun c_230 => ?_)
                · skip
                  have c_230 : ¬ (gR s_223 4 = 0) := c_230
                  refine lv_iconst (v := 0) hx hb d_Mod_readText_237 (by decide) ?_
                  exact hret H locs s_223 false _ _ hP hD hS (pr2 (by rw [hF]; (try simp only [mTxtL, if_neg c_148, if_neg c_179, if_neg c_212, if_neg c_230, ← e_171, ← e_204, ← e_223, if_true, if_false, Bool.false_eq_true, ↓reduceIte]) <;> (try simp only [mTxtE, if_neg c_148, if_neg c_179, if_neg c_212, if_neg c_230, ← e_171, ← e_204, ← e_223, if_true, if_false, Bool.false_eq_true, ↓reduceIte]) <;> (try simp only [mTxtU, if_neg c_148, if_neg c_179, if_neg c_212, if_neg c_230, ← e_171, ← e_204, ← e_223, if_true, if_false, Bool.false_eq_true, ↓reduceIte]) <;> (try simp only [mTxtW, if_neg c_148, if_neg c_179, if_neg c_212, if_neg c_230, ← e_171, ← e_204, ← e_223, if_true, if_false, Bool.false_eq_true, ↓reduceIte]) <;> (try simp only [mTxtX, if_neg c_148, if_neg c_179, if_neg c_212, if_neg c_230, ← e_171, ← e_204, ← e_223, if_true, if_false, Bool.false_eq_true, ↓reduceIte]) <;> (first | done | with_reducible rfl | rw [e_223]))) d_Mod_readText_238
                · skip
                  have c_230 : (gR s_223 4 = 0) := c_230
                  refine lv_iconst (v := 1) hx hb d_Mod_readText_233 (by decide) ?_
                  refine lv_goto (tgt := 238) hx hb d_Mod_readText_234 (by decide) ?_
                  exact hret H locs s_223 true _ _ hP hD hS (pr2 (by rw [hF]; (try simp only [mTxtL, if_neg c_148, if_neg c_179, if_neg c_212, if_pos c_230, ← e_171, ← e_204, ← e_223, if_true, if_false, Bool.false_eq_true, ↓reduceIte]) <;> (try simp only [mTxtE, if_neg c_148, if_neg c_179, if_neg c_212, if_pos c_230, ← e_171, ← e_204, ← e_223, if_true, if_false, Bool.false_eq_true, ↓reduceIte]) <;> (try simp only [mTxtU, if_neg c_148, if_neg c_179, if_neg c_212, if_pos c_230, ← e_171, ← e_204, ← e_223, if_true, if_false, Bool.false_eq_true, ↓reduceIte]) <;> (try simp only [mTxtW, if_neg c_148, if_neg c_179, if_neg c_212, if_pos c_230, ← e_171, ← e_204, ← e_223, if_true, if_false, Bool.false_eq_true, ↓reduceIte]) <;> (try simp only [mTxtX, if_neg c_148, if_neg c_179, if_neg c_212, if_pos c_230, ← e_171, ← e_204, ← e_223, if_true, if_false, Bool.false_eq_true, ↓reduceIte]) <;> (first | done | with_reducible rfl | rw [e_223]))) d_Mod_readText_238
            · skip
              have c_179 : (gR s_171 4 = 0) := c_179
              refine lv_aload_n hx hb d_Mod_readText_182 rfl (lv_at hl 0 rfl) ?_
              refine va_get (D := D) (ci := 4) (v := .int (gR s_171 3)) (C := "HeadDeskModel") (T := F_Mod) (N := 38) hx hb hts a_Mod hown hX.1 hP 0 rfl rfl 4 (by decide) (hts _ m_2_221) (fun _ h9 => h9) rfl d_Mod_readText_183 ?_
              refine lv_aload_n hx hb d_Mod_readText_186 rfl (lv_at hl 0 rfl) ?_
              refine va_get (D := D) (ci := 4) (v := .int (gR s_171 1)) (C := "HeadDeskModel") (T := F_Mod) (N := 38) hx hb hts a_Mod hown hX.1 hP 0 rfl rfl 2 (by decide) (hts _ m_2_219) (fun _ h9 => h9) rfl d_Mod_readText_187 ?_
              refine lv_icmp_ge (tgt := 202) hx hb d_Mod_readText_190 (by decide) (fun c_190 => ?_) (fun c_190 => ?_)
              · skip
                have c_190 : (gR s_171 1 ≤ gR s_171 3) := c_190
                refine lv_aload_n hx hb d_Mod_readText_202 rfl (lv_at hl 0 rfl) ?_
                refine lv_iconst (v := 0) hx hb d_Mod_readText_203 (by decide) ?_
                refine va_put (D := D) (ci := 4) (v := .int 0) (ty := .int) (C := "HeadDeskModel") (T := F_Mod) (N := 38) hx hb hts a_Mod t_Mod k_Mod n_Mod hown hX.1 hP hD hS 0 rfl rfl 2 (by decide) (hts _ m_2_219) (fun _ h9 => h9) rfl (by decide +kernel) rfl rfl (Nat.le_of_ble_eq_true rfl) d_Mod_readText_204 (fun H locs hP hD hS => ?_)
                have hP : va_P D vwCl (mdW bd ce (wR s_171 1 0)) H := hP
                have hD : va_D A (mdW bd ce (wR s_171 1 0)) := hD
                obtain ⟨s_204, e_204⟩ : ∃ z : MS, z = wR s_171 1 0 := ⟨_, rfl⟩
                have hP : va_P D vwCl (mdW bd ce s_204) H := by rw [e_204]; exact hP
                have hD : va_D A (mdW bd ce s_204) := by rw [e_204]; exact hD
                refine lv_aload_n hx hb d_Mod_readText_207 rfl (lv_at hl 0 rfl) ?_
                refine lv_aload_n hx hb d_Mod_readText_208 rfl (lv_at hl 0 rfl) ?_
                refine va_get (D := D) (ci := 4) (v := .int (gR s_204 4)) (C := "HeadDeskModel") (T := F_Mod) (N := 38) hx hb hts a_Mod hown hX.1 hP 0 rfl rfl 5 (by decide) (hts _ m_2_222) (fun _ h9 => h9) rfl d_Mod_readText_209 ?_
                refine lv_if_eq (tgt := 222) hx hb d_Mod_readText_212 (by decide) (fun c_212 => ?_) (fun c_212 => ?_)
                · skip
                  have c_212 : (gR s_204 4 = 0) := c_212
                  refine lv_iconst (v := (-1)) hx hb d_Mod_readText_222 (by decide) ?_
                  refine va_put (D := D) (ci := 4) (v := .int (-1)) (ty := .int) (C := "HeadDeskModel") (T := F_Mod) (N := 38) hx hb hts a_Mod t_Mod k_Mod n_Mod hown hX.1 hP hD hS 0 rfl rfl 3 (by decide) (hts _ m_2_220) (fun _ h9 => h9) rfl (by decide +kernel) rfl rfl (Nat.le_of_ble_eq_true rfl) d_Mod_readText_223 (fun H locs hP hD hS => ?_)
                  have hP : va_P D vwCl (mdW bd ce (wR s_204 2 (-1))) H := hP
                  have hD : va_D A (mdW bd ce (wR s_204 2 (-1))) := hD
                  obtain ⟨s_223, e_223⟩ : ∃ z : MS, z = wR s_204 2 (-1) := ⟨_, rfl⟩
                  have hP : va_P D vwCl (mdW bd ce s_223) H := by rw [e_223]; exact hP
                  have hD : va_D A (mdW bd ce s_223) := by rw [e_223]; exact hD
                  refine lv_aload_n hx hb d_Mod_readText_226 rfl (lv_at hl 0 rfl) ?_
                  refine va_get (D := D) (ci := 4) (v := .int (gR s_223 4)) (C := "HeadDeskModel") (T := F_Mod) (N := 38) hx hb hts a_Mod hown hX.1 hP 0 rfl rfl 5 (by decide) (hts _ m_2_222) (fun _ h9 => h9) rfl d_Mod_readText_227 ?_
                  refine lv_if_ne (tgt := 237) hx hb d_Mod_readText_230 (by decide) (fun c_230 => ?_) (fun c_230 => ?_)
                  · skip
                    have c_230 : ¬ (gR s_223 4 = 0) := c_230
                    refine lv_iconst (v := 0) hx hb d_Mod_readText_237 (by decide) ?_
                    exact hret H locs s_223 false _ _ hP hD hS (pr2 (by rw [hF]; (try simp only [mTxtL, if_neg c_148, if_pos c_179, if_pos c_190, if_pos c_212, if_neg c_230, ← e_171, ← e_204, ← e_223, if_true, if_false, Bool.false_eq_true, ↓reduceIte]) <;> (try simp only [mTxtE, if_neg c_148, if_pos c_179, if_pos c_190, if_pos c_212, if_neg c_230, ← e_171, ← e_204, ← e_223, if_true, if_false, Bool.false_eq_true, ↓reduceIte]) <;> (try simp only [mTxtU, if_neg c_148, if_pos c_179, if_pos c_190, if_pos c_212, if_neg c_230, ← e_171, ← e_204, ← e_223, if_true, if_false, Bool.false_eq_true, ↓reduceIte]) <;> (try simp only [mTxtW, if_neg c_148, if_pos c_179, if_pos c_190, if_pos c_212, if_neg c_230, ← e_171, ← e_204, ← e_223, if_true, if_false, Bool.false_eq_true, ↓reduceIte]) <;> (try simp only [mTxtX, if_neg c_148, if_pos c_179, if_pos c_190, if_pos c_212, if_neg c_230, ← e_171, ← e_204, ← e_223, if_true, if_false, Bool.false_eq_true, ↓reduceIte]) <;> (first | done | with_reducible rfl | rw [e_223]))) d_Mod_readText_238
                  · skip
                    have c_230 : (gR s_223 4 = 0) := c_230
                    refine lv_iconst (v := 1) hx hb d_Mod_readText_233 (by decide) ?_
                    refine lv_goto (tgt := 238) hx hb d_Mod_readText_234 (by decide) ?_
                    exact hret H locs s_223 true _ _ hP hD hS (pr2 (by rw [hF]; (try simp only [mTxtL, if_neg c_148, if_pos c_179, if_pos c_190, if_pos c_212, if_pos c_230, ← e_171, ← e_204, ← e_223, if_true, if_false, Bool.false_eq_true, ↓reduceIte]) <;> (try simp only [mTxtE, if_neg c_148, if_pos c_179, if_pos c_190, if_pos c_212, if_pos c_230, ← e_171, ← e_204, ← e_223, if_true, if_false, Bool.false_eq_true, ↓reduceIte]) <;> (try simp only [mTxtU, if_neg c_148, if_pos c_179, if_pos c_190, if_pos c_212, if_pos c_230, ← e_171, ← e_204, ← e_223, if_true, if_false, Bool.false_eq_true, ↓reduceIte]) <;> (try simp only [mTxtW, if_neg c_148, if_pos c_179, if_pos c_190, if_pos c_212, if_pos c_230, ← e_171, ← e_204, ← e_223, if_true, if_false, Bool.false_eq_true, ↓reduceIte]) <;> (try simp only [mTxtX, if_neg c_148, if_pos c_179, if_pos c_190, if_pos c_212, if_pos c_230, ← e_171, ← e_204, ← e_223, if_true, if_false, Bool.false_eq_true, ↓reduceIte]) <;> (first | done | with_reducible rfl | rw [e_223]))) d_Mod_readText_238
                · skip
                  have c_212 : ¬ (gR s_204 4 = 0) := c_212
                  refine lv_aload_n hx hb d_Mod_readText_215 rfl (lv_at hl 0 rfl) ?_
                  refine va_get (D := D) (ci := 4) (v := .int (gR s_204 5)) (C := "HeadDeskModel") (T := F_Mod) (N := 38) hx hb hts a_Mod hown hX.1 hP 0 rfl rfl 6 (by decide) (hts _ m_2_223) (fun _ h9 => h9) rfl d_Mod_readText_216 ?_
                  refine lv_goto (tgt := 223) hx hb d_Mod_readText_219 (by decide) ?_
                  refine va_put (D := D) (ci := 4) (v := .int (gR s_204 5)) (ty := .int) (C := "HeadDeskModel") (T := F_Mod) (N := 38) hx hb hts a_Mod t_Mod k_Mod n_Mod hown hX.1 hP hD hS 0 rfl rfl 3 (by decide) (hts _ m_2_220) (fun _ h9 => h9) rfl (by decide +kernel) rfl rfl (Nat.le_of_ble_eq_true rfl) d_Mod_readText_223 (fun H locs hP hD hS => ?_)
                  have hP : va_P D vwCl (mdW bd ce (wR s_204 2 (gR s_204 5))) H := hP
                  have hD : va_D A (mdW bd ce (wR s_204 2 (gR s_204 5))) := hD
                  obtain ⟨s_223, e_223⟩ : ∃ z : MS, z = wR s_204 2 (gR s_204 5) := ⟨_, rfl⟩
                  have hP : va_P D vwCl (mdW bd ce s_223) H := by rw [e_223]; exact hP
                  have hD : va_D A (mdW bd ce s_223) := by rw [e_223]; exact hD
                  refine lv_aload_n hx hb d_Mod_readText_226 rfl (lv_at hl 0 rfl) ?_
                  refine va_get (D := D) (ci := 4) (v := .int (gR s_223 4)) (C := "HeadDeskModel") (T := F_Mod) (N := 38) hx hb hts a_Mod hown hX.1 hP 0 rfl rfl 5 (by decide) (hts _ m_2_222) (fun _ h9 => h9) rfl d_Mod_readText_227 ?_
                  refine lv_if_ne (tgt := 237) hx hb d_Mod_readText_230 (by decide) (fun c_230 => ?_) (fun c_230 => ?_)
                  · skip
                    have c_230 : ¬ (gR s_223 4 = 0) := c_230
                    refine lv_iconst (v := 0) hx hb d_Mod_readText_237 (by decide) ?_
                    exact hret H locs s_223 false _ _ hP hD hS (pr2 (by rw [hF]; (try simp only [mTxtL, if_neg c_148, if_pos c_179, if_pos c_190, if_neg c_212, if_neg c_230, ← e_171, ← e_204, ← e_223, if_true, if_false, Bool.false_eq_true, ↓reduceIte]) <;> (try simp only [mTxtE, if_neg c_148, if_pos c_179, if_pos c_190, if_neg c_212, if_neg c_230, ← e_171, ← e_204, ← e_223, if_true, if_false, Bool.false_eq_true, ↓reduceIte]) <;> (try simp only [mTxtU, if_neg c_148, if_pos c_179, if_pos c_190, if_neg c_212, if_neg c_230, ← e_171, ← e_204, ← e_223, if_true, if_false, Bool.false_eq_true, ↓reduceIte]) <;> (try simp only [mTxtW, if_neg c_148, if_pos c_179, if_pos c_190, if_neg c_212, if_neg c_230, ← e_171, ← e_204, ← e_223, if_true, if_false, Bool.false_eq_true, ↓reduceIte]) <;> (try simp only [mTxtX, if_neg c_148, if_pos c_179, if_pos c_190, if_neg c_212, if_neg c_230, ← e_171, ← e_204, ← e_223, if_true, if_false, Bool.false_eq_true, ↓reduceIte]) <;> (first | done | with_reducible rfl | rw [e_223]))) d_Mod_readText_238
                  · skip
                    have c_230 : (gR s_223 4 = 0) := c_230
                    refine lv_iconst (v := 1) hx hb d_Mod_readText_233 (by decide) ?_
                    refine lv_goto (tgt := 238) hx hb d_Mod_readText_234 (by decide) ?_
                    exact hret H locs s_223 true _ _ hP hD hS (pr2 (by rw [hF]; (try simp only [mTxtL, if_neg c_148, if_pos c_179, if_pos c_190, if_neg c_212, if_pos c_230, ← e_171, ← e_204, ← e_223, if_true, if_false, Bool.false_eq_true, ↓reduceIte]) <;> (try simp only [mTxtE, if_neg c_148, if_pos c_179, if_pos c_190, if_neg c_212, if_pos c_230, ← e_171, ← e_204, ← e_223, if_true, if_false, Bool.false_eq_true, ↓reduceIte]) <;> (try simp only [mTxtU, if_neg c_148, if_pos c_179, if_pos c_190, if_neg c_212, if_pos c_230, ← e_171, ← e_204, ← e_223, if_true, if_false, Bool.false_eq_true, ↓reduceIte]) <;> (try simp only [mTxtW, if_neg c_148, if_pos c_179, if_pos c_190, if_neg c_212, if_pos c_230, ← e_171, ← e_204, ← e_223, if_true, if_false, Bool.false_eq_true, ↓reduceIte]) <;> (try simp only [mTxtX, if_neg c_148, if_pos c_179, if_pos c_190, if_neg c_212, if_pos c_230, ← e_171, ← e_204, ← e_223, if_true, if_false, Bool.false_eq_true, ↓reduceIte]) <;> (first | done | with_reducible rfl | rw [e_223]))) d_Mod_readText_238
              · skip
                have c_190 : ¬ (gR s_171 1 ≤ gR s_171 3) := c_190
                refine lv_aload_n hx hb d_Mod_readText_193 rfl (lv_at hl 0 rfl) ?_
                refine lv_aload_n hx hb d_Mod_readText_194 rfl (lv_at hl 0 rfl) ?_
                refine va_get (D := D) (ci := 4) (v := .int (gR s_171 3)) (C := "HeadDeskModel") (T := F_Mod) (N := 38) hx hb hts a_Mod hown hX.1 hP 0 rfl rfl 4 (by decide) (hts _ m_2_221) (fun _ h9 => h9) rfl d_Mod_readText_195 ?_
                refine hx_Vz (wr := []) (As := [.int (gR s_171 3)]) (rest := []) hI (c_Mod_wrong s_171 i_171 (gR s_171 3)) (cw_V (C := "HeadDeskModel") 1 hts m_3_124 m_3_126 ms_29 m_1_5 m_3_127 (by decide +kernel) ⟨by decide, by decide⟩) hX hA hP hD hS [0, 1, 2, 3, 4, 5, 6] [] rfl rfl (by decide) (by decide) (by decide) (va_recv hX.1 hP (ci := 4) (q0 := 0) rfl rfl) rfl hl.1 rfl (Nat.le_of_ble_eq_true rfl) d_Mod_readText_198 ⟨Nat.zero_le _, Nat.zero_le _⟩ (fun H locs hP hD hS => ?_)
                obtain ⟨s_198, e_198⟩ : ∃ z : MS, z = mWr s_171 (gR s_171 3) := ⟨_, rfl⟩
                have i_198 : mInv s_198 := by rw [e_198]; exact inv_wr i_171
                have hP : va_P D vwCl (mdW bd ce s_198) H := by rw [e_198]; exact hP
                have hD : va_D A (mdW bd ce s_198) := by rw [e_198]; exact hD
                refine lv_pop hx hb d_Mod_readText_201 rfl ?_
                refine lv_aload_n hx hb d_Mod_readText_202 rfl (lv_at hl 0 rfl) ?_
                refine lv_iconst (v := 0) hx hb d_Mod_readText_203 (by decide) ?_
                refine va_put (D := D) (ci := 4) (v := .int 0) (ty := .int) (C := "HeadDeskModel") (T := F_Mod) (N := 38) hx hb hts a_Mod t_Mod k_Mod n_Mod hown hX.1 hP hD hS 0 rfl rfl 2 (by decide) (hts _ m_2_219) (fun _ h9 => h9) rfl (by decide +kernel) rfl rfl (Nat.le_of_ble_eq_true rfl) d_Mod_readText_204 (fun H locs hP hD hS => ?_)
                have hP : va_P D vwCl (mdW bd ce (wR s_198 1 0)) H := hP
                have hD : va_D A (mdW bd ce (wR s_198 1 0)) := hD
                obtain ⟨s_204, e_204⟩ : ∃ z : MS, z = wR s_198 1 0 := ⟨_, rfl⟩
                have hP : va_P D vwCl (mdW bd ce s_204) H := by rw [e_204]; exact hP
                have hD : va_D A (mdW bd ce s_204) := by rw [e_204]; exact hD
                refine lv_aload_n hx hb d_Mod_readText_207 rfl (lv_at hl 0 rfl) ?_
                refine lv_aload_n hx hb d_Mod_readText_208 rfl (lv_at hl 0 rfl) ?_
                refine va_get (D := D) (ci := 4) (v := .int (gR s_204 4)) (C := "HeadDeskModel") (T := F_Mod) (N := 38) hx hb hts a_Mod hown hX.1 hP 0 rfl rfl 5 (by decide) (hts _ m_2_222) (fun _ h9 => h9) rfl d_Mod_readText_209 ?_
                refine lv_if_eq (tgt := 222) hx hb d_Mod_readText_212 (by decide) (fun c_212 => ?_) (fun c_212 => ?_)
                · skip
                  have c_212 : (gR s_204 4 = 0) := c_212
                  refine lv_iconst (v := (-1)) hx hb d_Mod_readText_222 (by decide) ?_
                  refine va_put (D := D) (ci := 4) (v := .int (-1)) (ty := .int) (C := "HeadDeskModel") (T := F_Mod) (N := 38) hx hb hts a_Mod t_Mod k_Mod n_Mod hown hX.1 hP hD hS 0 rfl rfl 3 (by decide) (hts _ m_2_220) (fun _ h9 => h9) rfl (by decide +kernel) rfl rfl (Nat.le_of_ble_eq_true rfl) d_Mod_readText_223 (fun H locs hP hD hS => ?_)
                  have hP : va_P D vwCl (mdW bd ce (wR s_204 2 (-1))) H := hP
                  have hD : va_D A (mdW bd ce (wR s_204 2 (-1))) := hD
                  obtain ⟨s_223, e_223⟩ : ∃ z : MS, z = wR s_204 2 (-1) := ⟨_, rfl⟩
                  have hP : va_P D vwCl (mdW bd ce s_223) H := by rw [e_223]; exact hP
                  have hD : va_D A (mdW bd ce s_223) := by rw [e_223]; exact hD
                  refine lv_aload_n hx hb d_Mod_readText_226 rfl (lv_at hl 0 rfl) ?_
                  refine va_get (D := D) (ci := 4) (v := .int (gR s_223 4)) (C := "HeadDeskModel") (T := F_Mod) (N := 38) hx hb hts a_Mod hown hX.1 hP 0 rfl rfl 5 (by decide) (hts _ m_2_222) (fun _ h9 => h9) rfl d_Mod_readText_227 ?_
                  refine lv_if_ne (tgt := 237) hx hb d_Mod_readText_230 (by decide) (fun c_230 => ?_) (fun c_230 => ?_)
                  · skip
                    have c_230 : ¬ (gR s_223 4 = 0) := c_230
                    refine lv_iconst (v := 0) hx hb d_Mod_readText_237 (by decide) ?_
                    exact hret H locs s_223 false _ _ hP hD hS (pr2 (by rw [hF]; (try simp only [mTxtL, if_neg c_148, if_pos c_179, if_neg c_190, if_pos c_212, if_neg c_230, ← e_171, ← e_198, ← e_204, ← e_223, if_true, if_false, Bool.false_eq_true, ↓reduceIte]) <;> (try simp only [mTxtE, if_neg c_148, if_pos c_179, if_neg c_190, if_pos c_212, if_neg c_230, ← e_171, ← e_198, ← e_204, ← e_223, if_true, if_false, Bool.false_eq_true, ↓reduceIte]) <;> (try simp only [mTxtU, if_neg c_148, if_pos c_179, if_neg c_190, if_pos c_212, if_neg c_230, ← e_171, ← e_198, ← e_204, ← e_223, if_true, if_false, Bool.false_eq_true, ↓reduceIte]) <;> (try simp only [mTxtW, if_neg c_148, if_pos c_179, if_neg c_190, if_pos c_212, if_neg c_230, ← e_171, ← e_198, ← e_204, ← e_223, if_true, if_false, Bool.false_eq_true, ↓reduceIte]) <;> (try simp only [mTxtX, if_neg c_148, if_pos c_179, if_neg c_190, if_pos c_212, if_neg c_230, ← e_171, ← e_198, ← e_204, ← e_223, if_true, if_false, Bool.false_eq_true, ↓reduceIte]) <;> (first | done | with_reducible rfl | rw [e_223]))) d_Mod_readText_238
                  · skip
                    have c_230 : (gR s_223 4 = 0) := c_230
                    refine lv_iconst (v := 1) hx hb d_Mod_readText_233 (by decide) ?_
                    refine lv_goto (tgt := 238) hx hb d_Mod_readText_234 (by decide) ?_
                    exact hret H locs s_223 true _ _ hP hD hS (pr2 (by rw [hF]; (try simp only [mTxtL, if_neg c_148, if_pos c_179, if_neg c_190, if_pos c_212, if_pos c_230, ← e_171, ← e_198, ← e_204, ← e_223, if_true, if_false, Bool.false_eq_true, ↓reduceIte]) <;> (try simp only [mTxtE, if_neg c_148, if_pos c_179, if_neg c_190, if_pos c_212, if_pos c_230, ← e_171, ← e_198, ← e_204, ← e_223, if_true, if_false, Bool.false_eq_true, ↓reduceIte]) <;> (try simp only [mTxtU, if_neg c_148, if_pos c_179, if_neg c_190, if_pos c_212, if_pos c_230, ← e_171, ← e_198, ← e_204, ← e_223, if_true, if_false, Bool.false_eq_true, ↓reduceIte]) <;> (try simp only [mTxtW, if_neg c_148, if_pos c_179, if_neg c_190, if_pos c_212, if_pos c_230, ← e_171, ← e_198, ← e_204, ← e_223, if_true, if_false, Bool.false_eq_true, ↓reduceIte]) <;> (try simp only [mTxtX, if_neg c_148, if_pos c_179, if_neg c_190, if_pos c_212, if_pos c_230, ← e_171, ← e_198, ← e_204, ← e_223, if_true, if_false, Bool.false_eq_true, ↓reduceIte]) <;> (first | done | with_reducible rfl | rw [e_223]))) d_Mod_readText_238
                · skip
                  have c_212 : ¬ (gR s_204 4 = 0) := c_212
                  refine lv_aload_n hx hb d_Mod_readText_215 rfl (lv_at hl 0 rfl) ?_
                  refine va_get (D := D) (ci := 4) (v := .int (gR s_204 5)) (C := "HeadDeskModel") (T := F_Mod) (N := 38) hx hb hts a_Mod hown hX.1 hP 0 rfl rfl 6 (by decide) (hts _ m_2_223) (fun _ h9 => h9) rfl d_Mod_readText_216 ?_
                  refine lv_goto (tgt := 223) hx hb d_Mod_readText_219 (by decide) ?_
                  refine va_put (D := D) (ci := 4) (v := .int (gR s_204 5)) (ty := .int) (C := "HeadDeskModel") (T := F_Mod) (N := 38) hx hb hts a_Mod t_Mod k_Mod n_Mod hown hX.1 hP hD hS 0 rfl rfl 3 (by decide) (hts _ m_2_220) (fun _ h9 => h9) rfl (by decide +kernel) rfl rfl (Nat.le_of_ble_eq_true rfl) d_Mod_readText_223 (fun H locs hP hD hS => ?_)
                  have hP : va_P D vwCl (mdW bd ce (wR s_204 2 (gR s_204 5))) H := hP
                  have hD : va_D A (mdW bd ce (wR s_204 2 (gR s_204 5))) := hD
                  obtain ⟨s_223, e_223⟩ : ∃ z : MS, z = wR s_204 2 (gR s_204 5) := ⟨_, rfl⟩
                  have hP : va_P D vwCl (mdW bd ce s_223) H := by rw [e_223]; exact hP
                  have hD : va_D A (mdW bd ce s_223) := by rw [e_223]; exact hD
                  refine lv_aload_n hx hb d_Mod_readText_226 rfl (lv_at hl 0 rfl) ?_
                  refine va_get (D := D) (ci := 4) (v := .int (gR s_223 4)) (C := "HeadDeskModel") (T := F_Mod) (N := 38) hx hb hts a_Mod hown hX.1 hP 0 rfl rfl 5 (by decide) (hts _ m_2_222) (fun _ h9 => h9) rfl d_Mod_readText_227 ?_
                  refine lv_if_ne (tgt := 237) hx hb d_Mod_readText_230 (by decide) (fun c_230 => ?_) (fun c_230 => ?_)
                  · skip
                    have c_230 : ¬ (gR s_223 4 = 0) := c_230
                    refine lv_iconst (v := 0) hx hb d_Mod_readText_237 (by decide) ?_
                    exact hret H locs s_223 false _ _ hP hD hS (pr2 (by rw [hF]; (try simp only [mTxtL, if_neg c_148, if_pos c_179, if_neg c_190, if_neg c_212, if_neg c_230, ← e_171, ← e_198, ← e_204, ← e_223, if_true, if_false, Bool.false_eq_true, ↓reduceIte]) <;> (try simp only [mTxtE, if_neg c_148, if_pos c_179, if_neg c_190, if_neg c_212, if_neg c_230, ← e_171, ← e_198, ← e_204, ← e_223, if_true, if_false, Bool.false_eq_true, ↓reduceIte]) <;> (try simp only [mTxtU, if_neg c_148, if_pos c_179, if_neg c_190, if_neg c_212, if_neg c_230, ← e_171, ← e_198, ← e_204, ← e_223, if_true, if_false, Bool.false_eq_true, ↓reduceIte]) <;> (try simp only [mTxtW, if_neg c_148, if_pos c_179, if_neg c_190, if_neg c_212, if_neg c_230, ← e_171, ← e_198, ← e_204, ← e_223, if_true, if_false, Bool.false_eq_true, ↓reduceIte]) <;> (try simp only [mTxtX, if_neg c_148, if_pos c_179, if_neg c_190, if_neg c_212, if_neg c_230, ← e_171, ← e_198, ← e_204, ← e_223, if_true, if_false, Bool.false_eq_true, ↓reduceIte]) <;> (first | done | with_reducible rfl | rw [e_223]))) d_Mod_readText_238
                  · skip
                    have c_230 : (gR s_223 4 = 0) := c_230
                    refine lv_iconst (v := 1) hx hb d_Mod_readText_233 (by decide) ?_
                    refine lv_goto (tgt := 238) hx hb d_Mod_readText_234 (by decide) ?_
                    exact hret H locs s_223 true _ _ hP hD hS (pr2 (by rw [hF]; (try simp only [mTxtL, if_neg c_148, if_pos c_179, if_neg c_190, if_neg c_212, if_pos c_230, ← e_171, ← e_198, ← e_204, ← e_223, if_true, if_false, Bool.false_eq_true, ↓reduceIte]) <;> (try simp only [mTxtE, if_neg c_148, if_pos c_179, if_neg c_190, if_neg c_212, if_pos c_230, ← e_171, ← e_198, ← e_204, ← e_223, if_true, if_false, Bool.false_eq_true, ↓reduceIte]) <;> (try simp only [mTxtU, if_neg c_148, if_pos c_179, if_neg c_190, if_neg c_212, if_pos c_230, ← e_171, ← e_198, ← e_204, ← e_223, if_true, if_false, Bool.false_eq_true, ↓reduceIte]) <;> (try simp only [mTxtW, if_neg c_148, if_pos c_179, if_neg c_190, if_neg c_212, if_pos c_230, ← e_171, ← e_198, ← e_204, ← e_223, if_true, if_false, Bool.false_eq_true, ↓reduceIte]) <;> (try simp only [mTxtX, if_neg c_148, if_pos c_179, if_neg c_190, if_neg c_212, if_pos c_230, ← e_171, ← e_198, ← e_204, ← e_223, if_true, if_false, Bool.false_eq_true, ↓reduceIte]) <;> (first | done | with_reducible rfl | rw [e_223]))) d_Mod_readText_238
          · skip
            have c_148 : (gR s2 4 = 0) := c_148
            refine lv_aload_n hx hb d_Mod_readText_151 rfl (lv_at hl 0 rfl) ?_
            refine hx_Vi (wr := []) (As := []) (rest := []) hI (c_Mod_see s2 hv ) (cw_V (C := "HeadDeskModel") 0 hts m_3_109 m_3_111 ms_26 m_1_5 m_3_112 (by decide +kernel) ⟨by decide, by decide⟩) hX hA hP hD hS [0, 1, 2, 3, 4, 5, 6] [] rfl rfl (by decide) (by decide) (by decide) (va_recv hX.1 hP (ci := 4) (q0 := 0) rfl rfl) rfl hl.1 rfl (Nat.le_of_ble_eq_true rfl) d_Mod_readText_152 ⟨Nat.zero_le _, Nat.zero_le _⟩ (fun H locs hP hD hS => ?_)
            have hP : va_P D vwCl (mdW bd ce s2) H := hP
            have hD : va_D A (mdW bd ce s2) := hD
            refine lv_bipush (v := 10) hx hb d_Mod_readText_155 (by decide) ?_
            refine lv_icmp_eq (tgt := 168) hx hb d_Mod_readText_157 (by decide) (fun c_157 => ?_) (fun c_157 => ?_)
            · skip
              have c_157 : (mSee s2 = 10) := c_157
              refine lv_aload_n hx hb d_Mod_readText_168 rfl (lv_at hl 0 rfl) ?_
              refine lv_bipush (v := 10) hx hb d_Mod_readText_169 (by decide) ?_
              refine hx_Vz (wr := []) (As := [.int 10]) (rest := []) hI (c_Mod_expect s2 hv 10 (by decide)) (cw_V (C := "HeadDeskModel") 1 hts m_3_120 m_3_122 ms_28 m_1_5 m_3_123 (by decide +kernel) ⟨by decide, by decide⟩) hX hA hP hD hS [0, 1, 2, 3, 4, 5, 6] [] rfl rfl (by decide) (by decide) (by decide) (va_recv hX.1 hP (ci := 4) (q0 := 0) rfl rfl) rfl hl.1 rfl (Nat.le_of_ble_eq_true rfl) d_Mod_readText_171 ⟨Nat.zero_le _, Nat.zero_le _⟩ (fun H locs hP hD hS => ?_)
              obtain ⟨s_171, e_171⟩ : ∃ z : MS, z = (mExp s2 10).2 := ⟨_, rfl⟩
              have i_171 : mInv s_171 := by rw [e_171]; exact inv_exp hv (by decide)
              have hP : va_P D vwCl (mdW bd ce s_171) H := by rw [e_171]; exact hP
              have hD : va_D A (mdW bd ce s_171) := by rw [e_171]; exact hD
              refine lv_pop hx hb d_Mod_readText_174 rfl ?_
              refine lv_aload_n hx hb d_Mod_readText_175 rfl (lv_at hl 0 rfl) ?_
              refine va_get (D := D) (ci := 4) (v := .int (gR s_171 4)) (C := "HeadDeskModel") (T := F_Mod) (N := 38) hx hb hts a_Mod hown hX.1 hP 0 rfl rfl 5 (by decide) (hts _ m_2_222) (fun _ h9 => h9) rfl d_Mod_readText_176 ?_
              refine lv_if_ne (tgt := 202) hx hb d_Mod_readText_179 (by decide) (fun c_179 => ?_) (fun c_179 => ?_)
              · skip
                have c_179 : ¬ (gR s_171 4 = 0) := c_179
                refine lv_aload_n hx hb d_Mod_readText_202 rfl (lv_at hl 0 rfl) ?_
                refine lv_iconst (v := 0) hx hb d_Mod_readText_203 (by decide) ?_
                refine va_put (D := D) (ci := 4) (v := .int 0) (ty := .int) (C := "HeadDeskModel") (T := F_Mod) (N := 38) hx hb hts a_Mod t_Mod k_Mod n_Mod hown hX.1 hP hD hS 0 rfl rfl 2 (by decide) (hts _ m_2_219) (fun _ h9 => h9) rfl (by decide +kernel) rfl rfl (Nat.le_of_ble_eq_true rfl) d_Mod_readText_204 (fun H locs hP hD hS => ?_)
                have hP : va_P D vwCl (mdW bd ce (wR s_171 1 0)) H := hP
                have hD : va_D A (mdW bd ce (wR s_171 1 0)) := hD
                obtain ⟨s_204, e_204⟩ : ∃ z : MS, z = wR s_171 1 0 := ⟨_, rfl⟩
                have hP : va_P D vwCl (mdW bd ce s_204) H := by rw [e_204]; exact hP
                have hD : va_D A (mdW bd ce s_204) := by rw [e_204]; exact hD
                refine lv_aload_n hx hb d_Mod_readText_207 rfl (lv_at hl 0 rfl) ?_
                refine lv_aload_n hx hb d_Mod_readText_208 rfl (lv_at hl 0 rfl) ?_
                refine va_get (D := D) (ci := 4) (v := .int (gR s_204 4)) (C := "HeadDeskModel") (T := F_Mod) (N := 38) hx hb hts a_Mod hown hX.1 hP 0 rfl rfl 5 (by decide) (hts _ m_2_222) (fun _ h9 => h9) rfl d_Mod_readText_209 ?_
                refine lv_if_eq (tgt := 222) hx hb d_Mod_readText_212 (by decide) (fun c_212 => ?_) (fun c_212 => ?_)
                · skip
                  have c_212 : (gR s_204 4 = 0) := c_212
                  refine lv_iconst (v := (-1)) hx hb d_Mod_readText_222 (by decide) ?_
                  refine va_put (D := D) (ci := 4) (v := .int (-1)) (ty := .int) (C := "HeadDeskModel") (T := F_Mod) (N := 38) hx hb hts a_Mod t_Mod k_Mod n_Mod hown hX.1 hP hD hS 0 rfl rfl 3 (by decide) (hts _ m_2_220) (fun _ h9 => h9) rfl (by decide +kernel) rfl rfl (Nat.le_of_ble_eq_true rfl) d_Mod_readText_223 (fun H locs hP hD hS => ?_)
                  have hP : va_P D vwCl (mdW bd ce (wR s_204 2 (-1))) H := hP
                  have hD : va_D A (mdW bd ce (wR s_204 2 (-1))) := hD
                  obtain ⟨s_223, e_223⟩ : ∃ z : MS, z = wR s_204 2 (-1) := ⟨_, rfl⟩
                  have hP : va_P D vwCl (mdW bd ce s_223) H := by rw [e_223]; exact hP
                  have hD : va_D A (mdW bd ce s_223) := by rw [e_223]; exact hD
                  refine lv_aload_n hx hb d_Mod_readText_226 rfl (lv_at hl 0 rfl) ?_
                  refine va_get (D := D) (ci := 4) (v := .int (gR s_223 4)) (C := "HeadDeskModel") (T := F_Mod) (N := 38) hx hb hts a_Mod hown hX.1 hP 0 rfl rfl 5 (by decide) (hts _ m_2_222) (fun _ h9 => h9) rfl d_Mod_readText_227 ?_
                  refine lv_if_ne (tgt := 237) hx hb d_Mod_readText_230 (by decide) (fun c_230 => ?_) (fun c_230 => ?_)
                  · skip
                    have c_230 : ¬ (gR s_223 4 = 0) := c_230
                    refine lv_iconst (v := 0) hx hb d_Mod_readText_237 (by decide) ?_
                    exact hret H locs s_223 false _ _ hP hD hS (pr2 (by rw [hF]; (try simp only [mTxtL, if_pos c_148, if_pos c_157, if_neg c_179, if_pos c_212, if_neg c_230, ← e_171, ← e_204, ← e_223, if_true, if_false, Bool.false_eq_true, ↓reduceIte]) <;> (try simp only [mTxtE, if_pos c_148, if_pos c_157, if_neg c_179, if_pos c_212, if_neg c_230, ← e_171, ← e_204, ← e_223, if_true, if_false, Bool.false_eq_true, ↓reduceIte]) <;> (try simp only [mTxtU, if_pos c_148, if_pos c_157, if_neg c_179, if_pos c_212, if_neg c_230, ← e_171, ← e_204, ← e_223, if_true, if_false, Bool.false_eq_true, ↓reduceIte]) <;> (try simp only [mTxtW, if_pos c_148, if_pos c_157, if_neg c_179, if_pos c_212, if_neg c_230, ← e_171, ← e_204, ← e_223, if_true, if_false, Bool.false_eq_true, ↓reduceIte]) <;> (try simp only [mTxtX, if_pos c_148, if_pos c_157, if_neg c_179, if_pos c_212, if_neg c_230, ← e_171, ← e_204, ← e_223, if_true, if_false, Bool.false_eq_true, ↓reduceIte]) <;> (first | done | with_reducible rfl | rw [e_223]))) d_Mod_readText_238
                  · skip
                    have c_230 : (gR s_223 4 = 0) := c_230
                    refine lv_iconst (v := 1) hx hb d_Mod_readText_233 (by decide) ?_
                    refine lv_goto (tgt := 238) hx hb d_Mod_readText_234 (by decide) ?_
                    exact hret H locs s_223 true _ _ hP hD hS (pr2 (by rw [hF]; (try simp only [mTxtL, if_pos c_148, if_pos c_157, if_neg c_179, if_pos c_212, if_pos c_230, ← e_171, ← e_204, ← e_223, if_true, if_false, Bool.false_eq_true, ↓reduceIte]) <;> (try simp only [mTxtE, if_pos c_148, if_pos c_157, if_neg c_179, if_pos c_212, if_pos c_230, ← e_171, ← e_204, ← e_223, if_true, if_false, Bool.false_eq_true, ↓reduceIte]) <;> (try simp only [mTxtU, if_pos c_148, if_pos c_157, if_neg c_179, if_pos c_212, if_pos c_230, ← e_171, ← e_204, ← e_223, if_true, if_false, Bool.false_eq_true, ↓reduceIte]) <;> (try simp only [mTxtW, if_pos c_148, if_pos c_157, if_neg c_179, if_pos c_212, if_pos c_230, ← e_171, ← e_204, ← e_223, if_true, if_false, Bool.false_eq_true, ↓reduceIte]) <;> (try simp only [mTxtX, if_pos c_148, if_pos c_157, if_neg c_179, if_pos c_212, if_pos c_230, ← e_171, ← e_204, ← e_223, if_true, if_false, Bool.false_eq_true, ↓reduceIte]) <;> (first | done | with_reducible rfl | rw [e_223]))) d_Mod_readText_238
                · skip
                  have c_212 : ¬ (gR s_204 4 = 0) := c_212
                  refine lv_aload_n hx hb d_Mod_readText_215 rfl (lv_at hl 0 rfl) ?_
                  refine va_get (D := D) (ci := 4) (v := .int (gR s_204 5)) (C := "HeadDeskModel") (T := F_Mod) (N := 38) hx hb hts a_Mod hown hX.1 hP 0 rfl rfl 6 (by decide) (hts _ m_2_223) (fun _ h9 => h9) rfl d_Mod_readText_216 ?_
                  refine lv_goto (tgt := 223) hx hb d_Mod_readText_219 (by decide) ?_
                  refine va_put (D := D) (ci := 4) (v := .int (gR s_204 5)) (ty := .int) (C := "HeadDeskModel") (T := F_Mod) (N := 38) hx hb hts a_Mod t_Mod k_Mod n_Mod hown hX.1 hP hD hS 0 rfl rfl 3 (by decide) (hts _ m_2_220) (fun _ h9 => h9) rfl (by decide +kernel) rfl rfl (Nat.le_of_ble_eq_true rfl) d_Mod_readText_223 (fun H locs hP hD hS => ?_)
                  have hP : va_P D vwCl (mdW bd ce (wR s_204 2 (gR s_204 5))) H := hP
                  have hD : va_D A (mdW bd ce (wR s_204 2 (gR s_204 5))) := hD
                  obtain ⟨s_223, e_223⟩ : ∃ z : MS, z = wR s_204 2 (gR s_204 5) := ⟨_, rfl⟩
                  have hP : va_P D vwCl (mdW bd ce s_223) H := by rw [e_223]; exact hP
                  have hD : va_D A (mdW bd ce s_223) := by rw [e_223]; exact hD
                  refine lv_aload_n hx hb d_Mod_readText_226 rfl (lv_at hl 0 rfl) ?_
                  refine va_get (D := D) (ci := 4) (v := .int (gR s_223 4)) (C := "HeadDeskModel") (T := F_Mod) (N := 38) hx hb hts a_Mod hown hX.1 hP 0 rfl rfl 5 (by decide) (hts _ m_2_222) (fun _ h9 => h9) rfl d_Mod_readText_227 ?_
                  refine lv_if_ne (tgt := 237) hx hb d_Mod_readText_230 (by decide) (fun c_230 => ?_) (fun c_230 => ?_)
                  · skip
                    have c_230 : ¬ (gR s_223 4 = 0) := c_230
                    refine lv_iconst (v := 0) hx hb d_Mod_readText_237 (by decide) ?_
                    exact hret H locs s_223 false _ _ hP hD hS (pr2 (by rw [hF]; (try simp only [mTxtL, if_pos c_148, if_pos c_157, if_neg c_179, if_neg c_212, if_neg c_230, ← e_171, ← e_204, ← e_223, if_true, if_false, Bool.false_eq_true, ↓reduceIte]) <;> (try simp only [mTxtE, if_pos c_148, if_pos c_157, if_neg c_179, if_neg c_212, if_neg c_230, ← e_171, ← e_204, ← e_223, if_true, if_false, Bool.false_eq_true, ↓reduceIte]) <;> (try simp only [mTxtU, if_pos c_148, if_pos c_157, if_neg c_179, if_neg c_212, if_neg c_230, ← e_171, ← e_204, ← e_223, if_true, if_false, Bool.false_eq_true, ↓reduceIte]) <;> (try simp only [mTxtW, if_pos c_148, if_pos c_157, if_neg c_179, if_neg c_212, if_neg c_230, ← e_171, ← e_204, ← e_223, if_true, if_false, Bool.false_eq_true, ↓reduceIte]) <;> (try simp only [mTxtX, if_pos c_148, if_pos c_157, if_neg c_179, if_neg c_212, if_neg c_230, ← e_171, ← e_204, ← e_223, if_true, if_false, Bool.false_eq_true, ↓reduceIte]) <;> (first | done | with_reducible rfl | rw [e_223]))) d_Mod_readText_238
                  · skip
                    have c_230 : (gR s_223 4 = 0) := c_230
                    refine lv_iconst (v := 1) hx hb d_Mod_readText_233 (by decide) ?_
                    refine lv_goto (tgt := 238) hx hb d_Mod_readText_234 (by decide) ?_
                    exact hret H locs s_223 true _ _ hP hD hS (pr2 (by rw [hF]; (try simp only [mTxtL, if_pos c_148, if_pos c_157, if_neg c_179, if_neg c_212, if_pos c_230, ← e_171, ← e_204, ← e_223, if_true, if_false, Bool.false_eq_true, ↓reduceIte]) <;> (try simp only [mTxtE, if_pos c_148, if_pos c_157, if_neg c_179, if_neg c_212, if_pos c_230, ← e_171, ← e_204, ← e_223, if_true, if_false, Bool.false_eq_true, ↓reduceIte]) <;> (try simp only [mTxtU, if_pos c_148, if_pos c_157, if_neg c_179, if_neg c_212, if_pos c_230, ← e_171, ← e_204, ← e_223, if_true, if_false, Bool.false_eq_true, ↓reduceIte]) <;> (try simp only [mTxtW, if_pos c_148, if_pos c_157, if_neg c_179, if_neg c_212, if_pos c_230, ← e_171, ← e_204, ← e_223, if_true, if_false, Bool.false_eq_true, ↓reduceIte]) <;> (try simp only [mTxtX, if_pos c_148, if_pos c_157, if_neg c_179, if_neg c_212, if_pos c_230, ← e_171, ← e_204, ← e_223, if_true, if_false, Bool.false_eq_true, ↓reduceIte]) <;> (first | done | with_reducible rfl | rw [e_223]))) d_Mod_readText_238
              · skip
                have c_179 : (gR s_171 4 = 0) := c_179
                refine lv_aload_n hx hb d_Mod_readText_182 rfl (lv_at hl 0 rfl) ?_
                refine va_get (D := D) (ci := 4) (v := .int (gR s_171 3)) (C := "HeadDeskModel") (T := F_Mod) (N := 38) hx hb hts a_Mod hown hX.1 hP 0 rfl rfl 4 (by decide) (hts _ m_2_221) (fun _ h9 => h9) rfl d_Mod_readText_183 ?_
                refine lv_aload_n hx hb d_Mod_readText_186 rfl (lv_at hl 0 rfl) ?_
                refine va_get (D := D) (ci := 4) (v := .int (gR s_171 1)) (C := "HeadDeskModel") (T := F_Mod) (N := 38) hx hb hts a_Mod hown hX.1 hP 0 rfl rfl 2 (by decide) (hts _ m_2_219) (fun _ h9 => h9) rfl d_Mod_readText_187 ?_
                refine lv_icmp_ge (tgt := 202) hx hb d_Mod_readText_190 (by decide) (fun c_190 => ?_) (fun c_190 => ?_)
                · skip
                  have c_190 : (gR s_171 1 ≤ gR s_171 3) := c_190
                  refine lv_aload_n hx hb d_Mod_readText_202 rfl (lv_at hl 0 rfl) ?_
                  refine lv_iconst (v := 0) hx hb d_Mod_readText_203 (by decide) ?_
                  refine va_put (D := D) (ci := 4) (v := .int 0) (ty := .int) (C := "HeadDeskModel") (T := F_Mod) (N := 38) hx hb hts a_Mod t_Mod k_Mod n_Mod hown hX.1 hP hD hS 0 rfl rfl 2 (by decide) (hts _ m_2_219) (fun _ h9 => h9) rfl (by decide +kernel) rfl rfl (Nat.le_of_ble_eq_true rfl) d_Mod_readText_204 (fun H locs hP hD hS => ?_)
                  have hP : va_P D vwCl (mdW bd ce (wR s_171 1 0)) H := hP
                  have hD : va_D A (mdW bd ce (wR s_171 1 0)) := hD
                  obtain ⟨s_204, e_204⟩ : ∃ z : MS, z = wR s_171 1 0 := ⟨_, rfl⟩
                  have hP : va_P D vwCl (mdW bd ce s_204) H := by rw [e_204]; exact hP
                  have hD : va_D A (mdW bd ce s_204) := by rw [e_204]; exact hD
                  refine lv_aload_n hx hb d_Mod_readText_207 rfl (lv_at hl 0 rfl) ?_
                  refine lv_aload_n hx hb d_Mod_readText_208 rfl (lv_at hl 0 rfl) ?_
                  refine va_get (D := D) (ci := 4) (v := .int (gR s_204 4)) (C := "HeadDeskModel") (T := F_Mod) (N := 38) hx hb hts a_Mod hown hX.1 hP 0 rfl rfl 5 (by decide) (hts _ m_2_222) (fun _ h9 => h9) rfl d_Mod_readText_209 ?_
                  refine lv_if_eq (tgt := 222) hx hb d_Mod_readText_212 (by decide) (fun c_212 => ?_) (fun c_212 => ?_)
                  · skip
                    have c_212 : (gR s_204 4 = 0) := c_212
                    refine lv_iconst (v := (-1)) hx hb d_Mod_readText_222 (by decide) ?_
                    refine va_put (D := D) (ci := 4) (v := .int (-1)) (ty := .int) (C := "HeadDeskModel") (T := F_Mod) (N := 38) hx hb hts a_Mod t_Mod k_Mod n_Mod hown hX.1 hP hD hS 0 rfl rfl 3 (by decide) (hts _ m_2_220) (fun _ h9 => h9) rfl (by decide +kernel) rfl rfl (Nat.le_of_ble_eq_true rfl) d_Mod_readText_223 (fun H locs hP hD hS => ?_)
                    have hP : va_P D vwCl (mdW bd ce (wR s_204 2 (-1))) H := hP
                    have hD : va_D A (mdW bd ce (wR s_204 2 (-1))) := hD
                    obtain ⟨s_223, e_223⟩ : ∃ z : MS, z = wR s_204 2 (-1) := ⟨_, rfl⟩
                    have hP : va_P D vwCl (mdW bd ce s_223) H := by rw [e_223]; exact hP
                    have hD : va_D A (mdW bd ce s_223) := by rw [e_223]; exact hD
                    refine lv_aload_n hx hb d_Mod_readText_226 rfl (lv_at hl 0 rfl) ?_
                    refine va_get (D := D) (ci := 4) (v := .int (gR s_223 4)) (C := "HeadDeskModel") (T := F_Mod) (N := 38) hx hb hts a_Mod hown hX.1 hP 0 rfl rfl 5 (by decide) (hts _ m_2_222) (fun _ h9 => h9) rfl d_Mod_readText_227 ?_
                    refine lv_if_ne (tgt := 237) hx hb d_Mod_readText_230 (by decide) (fun c_230 => ?_) (fun c_230 => ?_)
                    · skip
                      have c_230 : ¬ (gR s_223 4 = 0) := c_230
                      refine lv_iconst (v := 0) hx hb d_Mod_readText_237 (by decide) ?_
                      exact hret H locs s_223 false _ _ hP hD hS (pr2 (by rw [hF]; (try simp only [mTxtL, if_pos c_148, if_pos c_157, if_pos c_179, if_pos c_190, if_pos c_212, if_neg c_230, ← e_171, ← e_204, ← e_223, if_true, if_false, Bool.false_eq_true, ↓reduceIte]) <;> (try simp only [mTxtE, if_pos c_148, if_pos c_157, if_pos c_179, if_pos c_190, if_pos c_212, if_neg c_230, ← e_171, ← e_204, ← e_223, if_true, if_false, Bool.false_eq_true, ↓reduceIte]) <;> (try simp only [mTxtU, if_pos c_148, if_pos c_157, if_pos c_179, if_pos c_190, if_pos c_212, if_neg c_230, ← e_171, ← e_204, ← e_223, if_true, if_false, Bool.false_eq_true, ↓reduceIte]) <;> (try simp only [mTxtW, if_pos c_148, if_pos c_157, if_pos c_179, if_pos c_190, if_pos c_212, if_neg c_230, ← e_171, ← e_204, ← e_223, if_true, if_false, Bool.false_eq_true, ↓reduceIte]) <;> (try simp only [mTxtX, if_pos c_148, if_pos c_157, if_pos c_179, if_pos c_190, if_pos c_212, if_neg c_230, ← e_171, ← e_204, ← e_223, if_true, if_false, Bool.false_eq_true, ↓reduceIte]) <;> (first | done | with_reducible rfl | rw [e_223]))) d_Mod_readText_238
                    · skip
                      have c_230 : (gR s_223 4 = 0) := c_230
                      refine lv_iconst (v := 1) hx hb d_Mod_readText_233 (by decide) ?_
                      refine lv_goto (tgt := 238) hx hb d_Mod_readText_234 (by decide) ?_
                      exact hret H locs s_223 true _ _ hP hD hS (pr2 (by rw [hF]; (try simp only [mTxtL, if_pos c_148, if_pos c_157, if_pos c_179, if_pos c_190, if_pos c_212, if_pos c_230, ← e_171, ← e_204, ← e_223, if_true, if_false, Bool.false_eq_true, ↓reduceIte]) <;> (try simp only [mTxtE, if_pos c_148, if_pos c_157, if_pos c_179, if_pos c_190, if_pos c_212, if_pos c_230, ← e_171, ← e_204, ← e_223, if_true, if_false, Bool.false_eq_true, ↓reduceIte]) <;> (try simp only [mTxtU, if_pos c_148, if_pos c_157, if_pos c_179, if_pos c_190, if_pos c_212, if_pos c_230, ← e_171, ← e_204, ← e_223, if_true, if_false, Bool.false_eq_true, ↓reduceIte]) <;> (try simp only [mTxtW, if_pos c_148, if_pos c_157, if_pos c_179, if_pos c_190, if_pos c_212, if_pos c_230, ← e_171, ← e_204, ← e_223, if_true, if_false, Bool.false_eq_true, ↓reduceIte]) <;> (try simp only [mTxtX, if_pos c_148, if_pos c_157, if_pos c_179, if_pos c_190, if_pos c_212, if_pos c_230, ← e_171, ← e_204, ← e_223, if_true, if_false, Bool.false_eq_true, ↓reduceIte]) <;> (first | done | with_reducible rfl | rw [e_223]))) d_Mod_readText_238
                  · skip
                    have c_212 : ¬ (gR s_204 4 = 0) := c_212
                    refine lv_aload_n hx hb d_Mod_readText_215 rfl (lv_at hl 0 rfl) ?_
                    refine va_get (D := D) (ci := 4) (v := .int (gR s_204 5)) (C := "HeadDeskModel") (T := F_Mod) (N := 38) hx hb hts a_Mod hown hX.1 hP 0 rfl rfl 6 (by decide) (hts _ m_2_223) (fun _ h9 => h9) rfl d_Mod_readText_216 ?_
                    refine lv_goto (tgt := 223) hx hb d_Mod_readText_219 (by decide) ?_
                    refine va_put (D := D) (ci := 4) (v := .int (gR s_204 5)) (ty := .int) (C := "HeadDeskModel") (T := F_Mod) (N := 38) hx hb hts a_Mod t_Mod k_Mod n_Mod hown hX.1 hP hD hS 0 rfl rfl 3 (by decide) (hts _ m_2_220) (fun _ h9 => h9) rfl (by decide +kernel) rfl rfl (Nat.le_of_ble_eq_true rfl) d_Mod_readText_223 (fun H locs hP hD hS => ?_)
                    have hP : va_P D vwCl (mdW bd ce (wR s_204 2 (gR s_204 5))) H := hP
                    have hD : va_D A (mdW bd ce (wR s_204 2 (gR s_204 5))) := hD
                    obtain ⟨s_223, e_223⟩ : ∃ z : MS, z = wR s_204 2 (gR s_204 5) := ⟨_, rfl⟩
                    have hP : va_P D vwCl (mdW bd ce s_223) H := by rw [e_223]; exact hP
                    have hD : va_D A (mdW bd ce s_223) := by rw [e_223]; exact hD
                    refine lv_aload_n hx hb d_Mod_readText_226 rfl (lv_at hl 0 rfl) ?_
                    refine va_get (D := D) (ci := 4) (v := .int (gR s_223 4)) (C := "HeadDeskModel") (T := F_Mod) (N := 38) hx hb hts a_Mod hown hX.1 hP 0 rfl rfl 5 (by decide) (hts _ m_2_222) (fun _ h9 => h9) rfl d_Mod_readText_227 ?_
                    refine lv_if_ne (tgt := 237) hx hb d_Mod_readText_230 (by decide) (fun c_230 => ?_) (fun c_230 => ?_)
                    · skip
                      have c_230 : ¬ (gR s_223 4 = 0) := c_230
                      refine lv_iconst (v := 0) hx hb d_Mod_readText_237 (by decide) ?_
                      exact hret H locs s_223 false _ _ hP hD hS (pr2 (by rw [hF]; (try simp only [mTxtL, if_pos c_148, if_pos c_157, if_pos c_179, if_pos c_190, if_neg c_212, if_neg c_230, ← e_171, ← e_204, ← e_223, if_true, if_false, Bool.false_eq_true, ↓reduceIte]) <;> (try simp only [mTxtE, if_pos c_148, if_pos c_157, if_pos c_179, if_pos c_190, if_neg c_212, if_neg c_230, ← e_171, ← e_204, ← e_223, if_true, if_false, Bool.false_eq_true, ↓reduceIte]) <;> (try simp only [mTxtU, if_pos c_148, if_pos c_157, if_pos c_179, if_pos c_190, if_neg c_212, if_neg c_230, ← e_171, ← e_204, ← e_223, if_true, if_false, Bool.false_eq_true, ↓reduceIte]) <;> (try simp only [mTxtW, if_pos c_148, if_pos c_157, if_pos c_179, if_pos c_190, if_neg c_212, if_neg c_230, ← e_171, ← e_204, ← e_223, if_true, if_false, Bool.false_eq_true, ↓reduceIte]) <;> (try simp only [mTxtX, if_pos c_148, if_pos c_157, if_pos c_179, if_pos c_190, if_neg c_212, if_neg c_230, ← e_171, ← e_204, ← e_223, if_true, if_false, Bool.false_eq_true, ↓reduceIte]) <;> (first | done | with_reducible rfl | rw [e_223]))) d_Mod_readText_238
                    · skip
                      have c_230 : (gR s_223 4 = 0) := c_230
                      refine lv_iconst (v := 1) hx hb d_Mod_readText_233 (by decide) ?_
                      refine lv_goto (tgt := 238) hx hb d_Mod_readText_234 (by decide) ?_
                      exact hret H locs s_223 true _ _ hP hD hS (pr2 (by rw [hF]; (try simp only [mTxtL, if_pos c_148, if_pos c_157, if_pos c_179, if_pos c_190, if_neg c_212, if_pos c_230, ← e_171, ← e_204, ← e_223, if_true, if_false, Bool.false_eq_true, ↓reduceIte]) <;> (try simp only [mTxtE, if_pos c_148, if_pos c_157, if_pos c_179, if_pos c_190, if_neg c_212, if_pos c_230, ← e_171, ← e_204, ← e_223, if_true, if_false, Bool.false_eq_true, ↓reduceIte]) <;> (try simp only [mTxtU, if_pos c_148, if_pos c_157, if_pos c_179, if_pos c_190, if_neg c_212, if_pos c_230, ← e_171, ← e_204, ← e_223, if_true, if_false, Bool.false_eq_true, ↓reduceIte]) <;> (try simp only [mTxtW, if_pos c_148, if_pos c_157, if_pos c_179, if_pos c_190, if_neg c_212, if_pos c_230, ← e_171, ← e_204, ← e_223, if_true, if_false, Bool.false_eq_true, ↓reduceIte]) <;> (try simp only [mTxtX, if_pos c_148, if_pos c_157, if_pos c_179, if_pos c_190, if_neg c_212, if_pos c_230, ← e_171, ← e_204, ← e_223, if_true, if_false, Bool.false_eq_true, ↓reduceIte]) <;> (first | done | with_reducible rfl | rw [e_223]))) d_Mod_readText_238
                · skip
                  have c_190 : ¬ (gR s_171 1 ≤ gR s_171 3) := c_190
                  refine lv_aload_n hx hb d_Mod_readText_193 rfl (lv_at hl 0 rfl) ?_
                  refine lv_aload_n hx hb d_Mod_readText_194 rfl (lv_at hl 0 rfl) ?_
                  refine va_get (D := D) (ci := 4) (v := .int (gR s_171 3)) (C := "HeadDeskModel") (T := F_Mod) (N := 38) hx hb hts a_Mod hown hX.1 hP 0 rfl rfl 4 (by decide) (hts _ m_2_221) (fun _ h9 => h9) rfl d_Mod_readText_195 ?_
                  refine hx_Vz (wr := []) (As := [.int (gR s_171 3)]) (rest := []) hI (c_Mod_wrong s_171 i_171 (gR s_171 3)) (cw_V (C := "HeadDeskModel") 1 hts m_3_124 m_3_126 ms_29 m_1_5 m_3_127 (by decide +kernel) ⟨by decide, by decide⟩) hX hA hP hD hS [0, 1, 2, 3, 4, 5, 6] [] rfl rfl (by decide) (by decide) (by decide) (va_recv hX.1 hP (ci := 4) (q0 := 0) rfl rfl) rfl hl.1 rfl (Nat.le_of_ble_eq_true rfl) d_Mod_readText_198 ⟨Nat.zero_le _, Nat.zero_le _⟩ (fun H locs hP hD hS => ?_)
                  obtain ⟨s_198, e_198⟩ : ∃ z : MS, z = mWr s_171 (gR s_171 3) := ⟨_, rfl⟩
                  have i_198 : mInv s_198 := by rw [e_198]; exact inv_wr i_171
                  have hP : va_P D vwCl (mdW bd ce s_198) H := by rw [e_198]; exact hP
                  have hD : va_D A (mdW bd ce s_198) := by rw [e_198]; exact hD
                  refine lv_pop hx hb d_Mod_readText_201 rfl ?_
                  refine lv_aload_n hx hb d_Mod_readText_202 rfl (lv_at hl 0 rfl) ?_
                  refine lv_iconst (v := 0) hx hb d_Mod_readText_203 (by decide) ?_
                  refine va_put (D := D) (ci := 4) (v := .int 0) (ty := .int) (C := "HeadDeskModel") (T := F_Mod) (N := 38) hx hb hts a_Mod t_Mod k_Mod n_Mod hown hX.1 hP hD hS 0 rfl rfl 2 (by decide) (hts _ m_2_219) (fun _ h9 => h9) rfl (by decide +kernel) rfl rfl (Nat.le_of_ble_eq_true rfl) d_Mod_readText_204 (fun H locs hP hD hS => ?_)
                  have hP : va_P D vwCl (mdW bd ce (wR s_198 1 0)) H := hP
                  have hD : va_D A (mdW bd ce (wR s_198 1 0)) := hD
                  obtain ⟨s_204, e_204⟩ : ∃ z : MS, z = wR s_198 1 0 := ⟨_, rfl⟩
                  have hP : va_P D vwCl (mdW bd ce s_204) H := by rw [e_204]; exact hP
                  have hD : va_D A (mdW bd ce s_204) := by rw [e_204]; exact hD
                  refine lv_aload_n hx hb d_Mod_readText_207 rfl (lv_at hl 0 rfl) ?_
                  refine lv_aload_n hx hb d_Mod_readText_208 rfl (lv_at hl 0 rfl) ?_
                  refine va_get (D := D) (ci := 4) (v := .int (gR s_204 4)) (C := "HeadDeskModel") (T := F_Mod) (N := 38) hx hb hts a_Mod hown hX.1 hP 0 rfl rfl 5 (by decide) (hts _ m_2_222) (fun _ h9 => h9) rfl d_Mod_readText_209 ?_
                  refine lv_if_eq (tgt := 222) hx hb d_Mod_readText_212 (by decide) (fun c_212 => ?_) (fun c_212 => ?_)
                  · skip
                    have c_212 : (gR s_204 4 = 0) := c_212
                    refine lv_iconst (v := (-1)) hx hb d_Mod_readText_222 (by decide) ?_
                    refine va_put (D := D) (ci := 4) (v := .int (-1)) (ty := .int) (C := "HeadDeskModel") (T := F_Mod) (N := 38) hx hb hts a_Mod t_Mod k_Mod n_Mod hown hX.1 hP hD hS 0 rfl rfl 3 (by decide) (hts _ m_2_220) (fun _ h9 => h9) rfl (by decide +kernel) rfl rfl (Nat.le_of_ble_eq_true rfl) d_Mod_readText_223 (fun H locs hP hD hS => ?_)
                    have hP : va_P D vwCl (mdW bd ce (wR s_204 2 (-1))) H := hP
                    have hD : va_D A (mdW bd ce (wR s_204 2 (-1))) := hD
                    obtain ⟨s_223, e_223⟩ : ∃ z : MS, z = wR s_204 2 (-1) := ⟨_, rfl⟩
                    have hP : va_P D vwCl (mdW bd ce s_223) H := by rw [e_223]; exact hP
                    have hD : va_D A (mdW bd ce s_223) := by rw [e_223]; exact hD
                    refine lv_aload_n hx hb d_Mod_readText_226 rfl (lv_at hl 0 rfl) ?_
                    refine va_get (D := D) (ci := 4) (v := .int (gR s_223 4)) (C := "HeadDeskModel") (T := F_Mod) (N := 38) hx hb hts a_Mod hown hX.1 hP 0 rfl rfl 5 (by decide) (hts _ m_2_222) (fun _ h9 => h9) rfl d_Mod_readText_227 ?_
                    refine lv_if_ne (tgt := 237) hx hb d_Mod_readText_230 (by decide) (fun c_230 => ?_) (fun c_230 => ?_)
                    · skip
                      have c_230 : ¬ (gR s_223 4 = 0) := c_230
                      refine lv_iconst (v := 0) hx hb d_Mod_readText_237 (by decide) ?_
                      exact hret H locs s_223 false _ _ hP hD hS (pr2 (by rw [hF]; (try simp only [mTxtL, if_pos c_148, if_pos c_157, if_pos c_179, if_neg c_190, if_pos c_212, if_neg c_230, ← e_171, ← e_198, ← e_204, ← e_223, if_true, if_false, Bool.false_eq_true, ↓reduceIte]) <;> (try simp only [mTxtE, if_pos c_148, if_pos c_157, if_pos c_179, if_neg c_190, if_pos c_212, if_neg c_230, ← e_171, ← e_198, ← e_204, ← e_223, if_true, if_false, Bool.false_eq_true, ↓reduceIte]) <;> (try simp only [mTxtU, if_pos c_148, if_pos c_157, if_pos c_179, if_neg c_190, if_pos c_212, if_neg c_230, ← e_171, ← e_198, ← e_204, ← e_223, if_true, if_false, Bool.false_eq_true, ↓reduceIte]) <;> (try simp only [mTxtW, if_pos c_148, if_pos c_157, if_pos c_179, if_neg c_190, if_pos c_212, if_neg c_230, ← e_171, ← e_198, ← e_204, ← e_223, if_true, if_false, Bool.false_eq_true, ↓reduceIte]) <;> (try simp only [mTxtX, if_pos c_148, if_pos c_157, if_pos c_179, if_neg c_190, if_pos c_212, if_neg c_230, ← e_171, ← e_198, ← e_204, ← e_223, if_true, if_false, Bool.false_eq_true, ↓reduceIte]) <;> (first | done | with_reducible rfl | rw [e_223]))) d_Mod_readText_238
                    · skip
                      have c_230 : (gR s_223 4 = 0) := c_230
                      refine lv_iconst (v := 1) hx hb d_Mod_readText_233 (by decide) ?_
                      refine lv_goto (tgt := 238) hx hb d_Mod_readText_234 (by decide) ?_
                      exact hret H locs s_223 true _ _ hP hD hS (pr2 (by rw [hF]; (try simp only [mTxtL, if_pos c_148, if_pos c_157, if_pos c_179, if_neg c_190, if_pos c_212, if_pos c_230, ← e_171, ← e_198, ← e_204, ← e_223, if_true, if_false, Bool.false_eq_true, ↓reduceIte]) <;> (try simp only [mTxtE, if_pos c_148, if_pos c_157, if_pos c_179, if_neg c_190, if_pos c_212, if_pos c_230, ← e_171, ← e_198, ← e_204, ← e_223, if_true, if_false, Bool.false_eq_true, ↓reduceIte]) <;> (try simp only [mTxtU, if_pos c_148, if_pos c_157, if_pos c_179, if_neg c_190, if_pos c_212, if_pos c_230, ← e_171, ← e_198, ← e_204, ← e_223, if_true, if_false, Bool.false_eq_true, ↓reduceIte]) <;> (try simp only [mTxtW, if_pos c_148, if_pos c_157, if_pos c_179, if_neg c_190, if_pos c_212, if_pos c_230, ← e_171, ← e_198, ← e_204, ← e_223, if_true, if_false, Bool.false_eq_true, ↓reduceIte]) <;> (try simp only [mTxtX, if_pos c_148, if_pos c_157, if_pos c_179, if_neg c_190, if_pos c_212, if_pos c_230, ← e_171, ← e_198, ← e_204, ← e_223, if_true, if_false, Bool.false_eq_true, ↓reduceIte]) <;> (first | done | with_reducible rfl | rw [e_223]))) d_Mod_readText_238
                  · skip
                    have c_212 : ¬ (gR s_204 4 = 0) := c_212
                    refine lv_aload_n hx hb d_Mod_readText_215 rfl (lv_at hl 0 rfl) ?_
                    refine va_get (D := D) (ci := 4) (v := .int (gR s_204 5)) (C := "HeadDeskModel") (T := F_Mod) (N := 38) hx hb hts a_Mod hown hX.1 hP 0 rfl rfl 6 (by decide) (hts _ m_2_223) (fun _ h9 => h9) rfl d_Mod_readText_216 ?_
                    refine lv_goto (tgt := 223) hx hb d_Mod_readText_219 (by decide) ?_
                    refine va_put (D := D) (ci := 4) (v := .int (gR s_204 5)) (ty := .int) (C := "HeadDeskModel") (T := F_Mod) (N := 38) hx hb hts a_Mod t_Mod k_Mod n_Mod hown hX.1 hP hD hS 0 rfl rfl 3 (by decide) (hts _ m_2_220) (fun _ h9 => h9) rfl (by decide +kernel) rfl rfl (Nat.le_of_ble_eq_true rfl) d_Mod_readText_223 (fun H locs hP hD hS => ?_)
                    have hP : va_P D vwCl (mdW bd ce (wR s_204 2 (gR s_204 5))) H := hP
                    have hD : va_D A (mdW bd ce (wR s_204 2 (gR s_204 5))) := hD
                    obtain ⟨s_223, e_223⟩ : ∃ z : MS, z = wR s_204 2 (gR s_204 5) := ⟨_, rfl⟩
                    have hP : va_P D vwCl (mdW bd ce s_223) H := by rw [e_223]; exact hP
                    have hD : va_D A (mdW bd ce s_223) := by rw [e_223]; exact hD
                    refine lv_aload_n hx hb d_Mod_readText_226 rfl (lv_at hl 0 rfl) ?_
                    refine va_get (D := D) (ci := 4) (v := .int (gR s_223 4)) (C := "HeadDeskModel") (T := F_Mod) (N := 38) hx hb hts a_Mod hown hX.1 hP 0 rfl rfl 5 (by decide) (hts _ m_2_222) (fun _ h9 => h9) rfl d_Mod_readText_227 ?_
                    refine lv_if_ne (tgt := 237) hx hb d_Mod_readText_230 (by decide) (fun c_230 => ?_) (fun c_230 => ?_)
                    · skip
                      have c_230 : ¬ (gR s_223 4 = 0) := c_230
                      refine lv_iconst (v := 0) hx hb d_Mod_readText_237 (by decide) ?_
                      exact hret H locs s_223 false _ _ hP hD hS (pr2 (by rw [hF]; (try simp only [mTxtL, if_pos c_148, if_pos c_157, if_pos c_179, if_neg c_190, if_neg c_212, if_neg c_230, ← e_171, ← e_198, ← e_204, ← e_223, if_true, if_false, Bool.false_eq_true, ↓reduceIte]) <;> (try simp only [mTxtE, if_pos c_148, if_pos c_157, if_pos c_179, if_neg c_190, if_neg c_212, if_neg c_230, ← e_171, ← e_198, ← e_204, ← e_223, if_true, if_false, Bool.false_eq_true, ↓reduceIte]) <;> (try simp only [mTxtU, if_pos c_148, if_pos c_157, if_pos c_179, if_neg c_190, if_neg c_212, if_neg c_230, ← e_171, ← e_198, ← e_204, ← e_223, if_true, if_false, Bool.false_eq_true, ↓reduceIte]) <;> (try simp only [mTxtW, if_pos c_148, if_pos c_157, if_pos c_179, if_neg c_190, if_neg c_212, if_neg c_230, ← e_171, ← e_198, ← e_204, ← e_223, if_true, if_false, Bool.false_eq_true, ↓reduceIte]) <;> (try simp only [mTxtX, if_pos c_148, if_pos c_157, if_pos c_179, if_neg c_190, if_neg c_212, if_neg c_230, ← e_171, ← e_198, ← e_204, ← e_223, if_true, if_false, Bool.false_eq_true, ↓reduceIte]) <;> (first | done | with_reducible rfl | rw [e_223]))) d_Mod_readText_238
                    · skip
                      have c_230 : (gR s_223 4 = 0) := c_230
                      refine lv_iconst (v := 1) hx hb d_Mod_readText_233 (by decide) ?_
                      refine lv_goto (tgt := 238) hx hb d_Mod_readText_234 (by decide) ?_
                      exact hret H locs s_223 true _ _ hP hD hS (pr2 (by rw [hF]; (try simp only [mTxtL, if_pos c_148, if_pos c_157, if_pos c_179, if_neg c_190, if_neg c_212, if_pos c_230, ← e_171, ← e_198, ← e_204, ← e_223, if_true, if_false, Bool.false_eq_true, ↓reduceIte]) <;> (try simp only [mTxtE, if_pos c_148, if_pos c_157, if_pos c_179, if_neg c_190, if_neg c_212, if_pos c_230, ← e_171, ← e_198, ← e_204, ← e_223, if_true, if_false, Bool.false_eq_true, ↓reduceIte]) <;> (try simp only [mTxtU, if_pos c_148, if_pos c_157, if_pos c_179, if_neg c_190, if_neg c_212, if_pos c_230, ← e_171, ← e_198, ← e_204, ← e_223, if_true, if_false, Bool.false_eq_true, ↓reduceIte]) <;> (try simp only [mTxtW, if_pos c_148, if_pos c_157, if_pos c_179, if_neg c_190, if_neg c_212, if_pos c_230, ← e_171, ← e_198, ← e_204, ← e_223, if_true, if_false, Bool.false_eq_true, ↓reduceIte]) <;> (try simp only [mTxtX, if_pos c_148, if_pos c_157, if_pos c_179, if_neg c_190, if_neg c_212, if_pos c_230, ← e_171, ← e_198, ← e_204, ← e_223, if_true, if_false, Bool.false_eq_true, ↓reduceIte]) <;> (first | done | with_reducible rfl | rw [e_223]))) d_Mod_readText_238
            · skip
              have c_157 : ¬ (mSee s2 = 10) := c_157
              refine lv_aload_n hx hb d_Mod_readText_160 rfl (lv_at hl 0 rfl) ?_
              refine lv_iload_n hx hb d_Mod_readText_161 rfl (lv_at hl 1 rfl) ?_
              refine hx_Vv (wr := []) (As := [.int x]) (rest := []) hI (c_Mod_line s2 hv hj x) (cw_V (C := "HeadDeskModel") 1 hts m_3_141 m_3_143 ms_32 m_1_5 m_3_144 (by decide +kernel) ⟨by decide, by decide⟩) hX hA hP hD hS [0, 1, 2, 3, 4, 5, 6] [] rfl rfl (by decide) (by decide) (by decide) (va_recv hX.1 hP (ci := 4) (q0 := 0) rfl rfl) rfl hl.1 rfl (Nat.le_of_ble_eq_true rfl) d_Mod_readText_162 ⟨Nat.zero_le _, Nat.zero_le _⟩ (fun H locs hP hD hS => ?_)
              obtain ⟨s_162, e_162⟩ : ∃ z : MS, z = mLine s2 x := ⟨_, rfl⟩
              have i_162 : mInv s_162 := by rw [e_162]; exact inv_line hv
              have hP : va_P D vwCl (mdW bd ce s_162) H := by rw [e_162]; exact hP
              have hD : va_D A (mdW bd ce s_162) := by rw [e_162]; exact hD
              refine lv_goto (tgt := 144) hx hb d_Mod_readText_165 (by decide) ?_
              exact ih s_162 H locs ls (by rw [e_162]; exact li_3 hv c_148 hk) i_162 (by rw [e_162]; exact jv_line hv hj) (by rw [hF, mTxtL, if_pos c_148, if_neg c_157, ← e_162]) hP hD hS (lv_sub hl [0, 1] rfl)
      exact loop144 301  s_141 H locs ls (fun _ => li_0 i_141) i_141 (by rw [e_141]; exact jv_tgt hj) (by rw [hF, mTxtB, ← e_141]) hP hD hS (lv_sub hl [0, 1] rfl)
    refine lv_if_eq (tgt := 123) hx hb d_Mod_readText_96 (by decide) (fun c_96 => ?_) (fun c_96 => ?_)
    · skip
      have c_96 : (x = 0) := c_96
      refine lv_aload_n hx hb d_Mod_readText_123 rfl (lv_at hl 0 rfl) ?_
      refine lv_iload_n hx hb d_Mod_readText_124 rfl (lv_at hl 1 rfl) ?_
      refine lv_if_eq (tgt := 133) hx hb d_Mod_readText_125 (by decide) (fun c_125 => ?_) (fun c_125 => ?_)
      · skip
        have c_125 : (x = 0) := c_125
        refine va_ldcS hx hb hown (hX.2.2.2.2.2.1 _ _ _ _ st_21) d_Mod_readText_133 ?_
        refine hx_Vz (wr := []) (As := [.ref (adK 21)]) (rest := []) hI (c_Mod_expectWordL s_92 i_92 (by decide) sw_21) (cw_V (C := "HeadDeskModel") 1 hts m_3_114 m_3_116 ms_27 m_1_5 m_3_117 (by decide +kernel) ⟨by decide, by decide⟩) hX hA hP hD hS [0, 1, 2, 3, 4, 5, 6] [] rfl rfl (by decide) (by decide) (by decide) (va_recv hX.1 hP (ci := 4) (q0 := 0) rfl rfl) rfl hl.1 rfl (Nat.le_of_ble_eq_true rfl) d_Mod_readText_135 ⟨Nat.zero_le _, Nat.zero_le _⟩ (fun H locs hP hD hS => ?_)
        obtain ⟨s_135, e_135⟩ : ∃ z : MS, z = (mWord t_PUT s_92).2 := ⟨_, rfl⟩
        have i_135 : mInv s_135 := by rw [e_135]; exact inv_word _ _ (by decide) i_92
        have hP : va_P D vwCl (mdW bd ce s_135) H := by rw [e_135]; exact hP
        have hD : va_D A (mdW bd ce s_135) := by rw [e_135]; exact hD
        refine lv_pop hx hb d_Mod_readText_138 rfl ?_
        exact jn139 s_135 H locs ls i_135 (by rw [e_135]; exact jv_word _ hj92) (by (try simp only [mTxt, if_pos c_96, if_pos c_125, ← e_92, ← e_135, if_true, if_false, Bool.false_eq_true, ↓reduceIte]) <;> (try simp only [mTxtA, if_pos c_96, if_pos c_125, ← e_92, ← e_135, if_true, if_false, Bool.false_eq_true, ↓reduceIte]) <;> (first | done | with_reducible rfl | rw [e_135])) hP hD hS (lv_sub hl [0, 1] rfl)
      · skip
        exact absurd c_96 c_125
    · skip
      have c_96 : ¬ (x = 0) := c_96
      refine lv_aload_n hx hb d_Mod_readText_99 rfl (lv_at hl 0 rfl) ?_
      refine hx_Vi (wr := []) (As := []) (rest := []) hI (c_Mod_see s_92 i_92 ) (cw_V (C := "HeadDeskModel") 0 hts m_3_109 m_3_111 ms_26 m_1_5 m_3_112 (by decide +kernel) ⟨by decide, by decide⟩) hX hA hP hD hS [0, 1, 2, 3, 4, 5, 6] [] rfl rfl (by decide) (by decide) (by decide) (va_recv hX.1 hP (ci := 4) (q0 := 0) rfl rfl) rfl hl.1 rfl (Nat.le_of_ble_eq_true rfl) d_Mod_readText_100 ⟨Nat.zero_le _, Nat.zero_le _⟩ (fun H locs hP hD hS => ?_)
      have hP : va_P D vwCl (mdW bd ce s_92) H := hP
      have hD : va_D A (mdW bd ce s_92) := hD
      refine lv_bipush (v := 72) hx hb d_Mod_readText_103 (by decide) ?_
      refine lv_icmp_ne (tgt := 123) hx hb d_Mod_readText_105 (by decide) (fun c_105 => ?_) (fun c_105 => ?_)
      · skip
        have c_105 : ¬ (mSee s_92 = 72) := c_105
        refine lv_aload_n hx hb d_Mod_readText_123 rfl (lv_at hl 0 rfl) ?_
        refine lv_iload_n hx hb d_Mod_readText_124 rfl (lv_at hl 1 rfl) ?_
        refine lv_if_eq (tgt := 133) hx hb d_Mod_readText_125 (by decide) (fun c_125 => ?_) (fun c_125 => ?_)
        · skip
          exact absurd c_125 c_96
        · skip
          have c_125 : ¬ (x = 0) := c_125
          refine va_ldcS hx hb hown (hX.2.2.2.2.2.1 _ _ _ _ st_20) d_Mod_readText_128 ?_
          refine lv_goto (tgt := 135) hx hb d_Mod_readText_130 (by decide) ?_
          refine hx_Vz (wr := []) (As := [.ref (adK 20)]) (rest := []) hI (c_Mod_expectWordL s_92 i_92 (by decide) sw_20) (cw_V (C := "HeadDeskModel") 1 hts m_3_114 m_3_116 ms_27 m_1_5 m_3_117 (by decide +kernel) ⟨by decide, by decide⟩) hX hA hP hD hS [0, 1, 2, 3, 4, 5, 6] [] rfl rfl (by decide) (by decide) (by decide) (va_recv hX.1 hP (ci := 4) (q0 := 0) rfl rfl) rfl hl.1 rfl (Nat.le_of_ble_eq_true rfl) d_Mod_readText_135 ⟨Nat.zero_le _, Nat.zero_le _⟩ (fun H locs hP hD hS => ?_)
          obtain ⟨s_135, e_135⟩ : ∃ z : MS, z = (mWord t_GET s_92).2 := ⟨_, rfl⟩
          have i_135 : mInv s_135 := by rw [e_135]; exact inv_word _ _ (by decide) i_92
          have hP : va_P D vwCl (mdW bd ce s_135) H := by rw [e_135]; exact hP
          have hD : va_D A (mdW bd ce s_135) := by rw [e_135]; exact hD
          refine lv_pop hx hb d_Mod_readText_138 rfl ?_
          exact jn139 s_135 H locs ls i_135 (by rw [e_135]; exact jv_word _ hj92) (by (try simp only [mTxt, if_neg c_96, if_neg c_105, if_neg c_125, ← e_92, ← e_135, if_true, if_false, Bool.false_eq_true, ↓reduceIte]) <;> (try simp only [mTxtA, if_neg c_96, if_neg c_105, if_neg c_125, ← e_92, ← e_135, if_true, if_false, Bool.false_eq_true, ↓reduceIte]) <;> (first | done | with_reducible rfl | rw [e_135])) hP hD hS (lv_sub hl [0, 1] rfl)
      · skip
        have c_105 : (mSee s_92 = 72) := c_105
        refine lv_aload_n hx hb d_Mod_readText_108 rfl (lv_at hl 0 rfl) ?_
        refine va_ldcS hx hb hown (hX.2.2.2.2.2.1 _ _ _ _ st_19) d_Mod_readText_109 ?_
        refine hx_Vz (wr := []) (As := [.ref (adK 19)]) (rest := []) hI (c_Mod_expectWordL s_92 i_92 (by decide) sw_19) (cw_V (C := "HeadDeskModel") 1 hts m_3_114 m_3_116 ms_27 m_1_5 m_3_117 (by decide +kernel) ⟨by decide, by decide⟩) hX hA hP hD hS [0, 1, 2, 3, 4, 5, 6] [] rfl rfl (by decide) (by decide) (by decide) (va_recv hX.1 hP (ci := 4) (q0 := 0) rfl rfl) rfl hl.1 rfl (Nat.le_of_ble_eq_true rfl) d_Mod_readText_111 ⟨Nat.zero_le _, Nat.zero_le _⟩ (fun H locs hP hD hS => ?_)
        obtain ⟨s_111, e_111⟩ : ∃ z : MS, z = (mWord t_HEAD s_92).2 := ⟨_, rfl⟩
        have i_111 : mInv s_111 := by rw [e_111]; exact inv_word _ _ (by decide) i_92
        have hP : va_P D vwCl (mdW bd ce s_111) H := by rw [e_111]; exact hP
        have hD : va_D A (mdW bd ce s_111) := by rw [e_111]; exact hD
        refine lv_pop hx hb d_Mod_readText_114 rfl ?_
        refine lv_aload_n hx hb d_Mod_readText_115 rfl (lv_at hl 0 rfl) ?_
        refine lv_iconst (v := 1) hx hb d_Mod_readText_116 (by decide) ?_
        refine va_put (D := D) (ci := 4) (v := .int 1) (ty := .boolean) (C := "HeadDeskModel") (T := F_Mod) (N := 38) hx hb hts a_Mod t_Mod k_Mod n_Mod hown hX.1 hP hD hS 0 rfl rfl 16 (by decide) (hts _ m_2_233) (fun _ h9 => h9) rfl (by decide +kernel) rfl rfl (Nat.le_of_ble_eq_true rfl) d_Mod_readText_117 (fun H locs hP hD hS => ?_)
        have hP : va_P D vwCl (mdW bd ce (wR s_111 15 1)) H := hP
        have hD : va_D A (mdW bd ce (wR s_111 15 1)) := hD
        obtain ⟨s_117, e_117⟩ : ∃ z : MS, z = wR s_111 15 1 := ⟨_, rfl⟩
        have hP : va_P D vwCl (mdW bd ce s_117) H := by rw [e_117]; exact hP
        have hD : va_D A (mdW bd ce s_117) := by rw [e_117]; exact hD
        have i_117 : mInv s_117 := by rw [e_117]; exact i_111
        refine lv_goto (tgt := 139) hx hb d_Mod_readText_120 (by decide) ?_
        exact jn139 s_117 H locs ls i_117 (by rw [e_117, e_111]; exact jv_kq (L := [15]) (Kq.wr (by decide)) (by decide) (by decide) (jv_word _ hj92)) (by (try simp only [mTxt, if_neg c_96, if_pos c_105, ← e_92, ← e_111, ← e_117, if_true, if_false, Bool.false_eq_true, ↓reduceIte]) <;> (try simp only [mTxtA, if_neg c_96, if_pos c_105, ← e_92, ← e_111, ← e_117, if_true, if_false, Bool.false_eq_true, ↓reduceIte]) <;> (first | done | with_reducible rfl | rw [e_117])) hP hD hS (lv_sub hl [0, 1] rfl)
  rw [hH, hlo] at goal
  exact goal
