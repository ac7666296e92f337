variable {l : Launch} {D : va_G} {bd : Nat → Nat} {ce : Nat → ClassId} {adK adV : Nat → Nat} {tF : Nat} {tys : List (ClassId × FieldType)}

set_option maxHeartbeats 4000000 in
set_option maxRecDepth 100000 in
theorem c_Mod_thrownN (st : MS) : hx_Mi l D (tyM ce) adK adV tF (mdW bd ce) y_Mod_thrown w_Mod_thrown (rmD 1) [.ref (bd 0)] st (gR st 0) st := by
  refine hx_Mi.of (cc := b_Mod_thrown) (maxL := 1) rfl (by decide) rfl (Nat.le_of_ble_eq_true rfl) ?_
  intro p e s m below meth c A Q ls hI hX hA hP hD hS hl hret
  obtain ⟨hx, hb, hml, hown, hts⟩ := id hI
  have hts : ∀ w ∈ aw, w.before ([.ref (bd 0)] : List Value).toArray s = true := fun w h => hts w (List.mem_cons_of_mem _ h)
  have hown : s.vm.findClass "HeadDeskModel" = some m.cls := hown
  have hI : hx_In p s m ([.ref (bd 0)] : List Value).toArray c b_Mod_thrown 1 "HeadDeskModel" aw := ⟨hx, hb, hml, hown, hts⟩
  have hP : va_P D vwCl (mdW bd ce st) s.heap := hP
  obtain ⟨H, hH⟩ : ∃ H, H = s.heap := ⟨_, rfl⟩
  obtain ⟨locs, hlo⟩ : ∃ locs : List Loc, locs = [] := ⟨_, rfl⟩
  have hS : va_S A s.heap H locs := by rw [hH, hlo]; exact hS
  have hP : va_P D vwCl (mdW bd ce st) H := by rw [hH]; exact hP
  have hl : lv_has ls 1 [(0, .ref (bd 0))] := hl
  have goal : W p l e (rmD 1) s m ([.ref (bd 0)] : List Value).toArray below meth c H locs 0 0 Q (F0 m 0 ls []) := by
    refine lv_aload_n hx hb d_Mod_thrown_0 rfl (lv_at hl 0 rfl) ?_
    refine va_get (D := D) (ci := 4) (v := .int (gR st 0)) (C := "HeadDeskModel") (T := F_Mod) (N := 38) hx hb hts a_Mod hown hX.1 hP 0 rfl rfl 0 (by decide) (hts _ m_2_217) (fun _ h9 => h9) rfl d_Mod_thrown_1 ?_
    exact hret H locs st (gR st 0) _ _ hP hD hS ⟨rfl, rfl⟩ d_Mod_thrown_4
  rw [hH, hlo] at goal
  exact goal
