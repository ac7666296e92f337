variable {l : Launch} {D : va_G} {ad : Nat → Nat} {cd : Nat → ClassId} {adK adV : Nat → Nat} {tF : Nat} {tys : List (ClassId × FieldType)}
set_option maxHeartbeats 4000000 in
set_option maxRecDepth 100000 in
theorem c_Tape_init (h0 : Nat) (sz : Nat) : Met l y_Tape_init w_Tape_init (rmC 2 1 300) (hx_PcN D [] adK adV tF [(h0, .inr (2, [.null, .int 0]))] [.ref h0] sz) (va_Qv (fun _ : (Nat → Nat) × (Nat → ClassId) => True) (fun u t => va_P D vwCl [(h0, .inr (2, [.ref (u.1 0), .int 0])), (u.1 0, .inl (u.2 0, 300, .inl (fun _ => 0)))] t.heap ∧ va_K D vwCl [(u.2 0, .char)] t ∧ va_D (va_A [(h0, .inr (2, [.null, .int 0]))] sz) [(h0, .inr (2, [.ref (u.1 0), .int 0])), (u.1 0, .inl (u.2 0, 300, .inl (fun _ => 0)))]) (va_A [(h0, .inr (2, [.null, .int 0]))] sz)) 1 300 (va_A [(h0, .inr (2, [.null, .int 0]))] sz) := by
  refine Met.ofW (cc := b_Tape_init) (maxL := 1) (ret := none) (by decide) rfl ?_
  intro p e s m args below meth c s₁ B hml hv
  obtain ⟨rfl, hsz, hP, hX, hD0, hN⟩ := hv
  have hx := B.exec
  have hb := B.bytes
  have hr := B.returns
  have hts := atoms_spec (ws := w_Tape_init) B.pre
  have hts : ∀ w ∈ aw, w.before ([.ref h0] : List Value).toArray s = true := fun w h => hts w (List.mem_cons_of_mem _ h)
  have hown : s.vm.findClass "HeadDesk$Tape" = some m.cls := findClass_of_methodNamed B.named
  have hlocks := B.notSynchronized
  have hin := (name_of_methodNamed B.named B.method).1
  subst hsz
  have hD := hD0.self (sz := s.heap.size)
  generalize hAe : va_A [(h0, .inr (2, [.null, .int 0]))] s.heap.size = A at hX hD ⊢
  have hA : ∀ q : Nat, s.heap.size ≤ q → A q := fun q h => by rw [← hAe]; exact Or.inr h
  have hS : va_S A s.heap s.heap [] := va_S.rf
  have hP : va_P D vwCl [(h0, .inr (2, [.null, .int 0]))] s.heap := hP
  have hD : va_D A [(h0, .inr (2, [.null, .int 0]))] := hD
  have hK := hX.1
  have hl := lv_entry ([.ref h0]) (n := 1) (Nat.le_of_ble_eq_true rfl)
  rw [lg_entry_eq]
  generalize (lg_sl ([.ref h0]) ++ List.replicate (1 - (lg_sl ([.ref h0])).length) Slot.unset).toArray = ls at hl ⊢
  have hl : lv_has ls 1 [(0, .ref h0)] := hl
  refine lv_aload_n hx hb d_Tape_init_0 rfl (lv_at hl 0 rfl) ?_
  refine W.objInit hx hb hown (hts _ m_1_35) (hts _ m_1_22) (hts _ m_1_23) rfl (by rw [hml]; exact hl.1) rfl d_Tape_init_1 (Nat.le_of_ble_eq_true rfl) (Nat.le_of_ble_eq_true rfl) ?_
  refine W.eq (g2 := F0 m 4 ls []) rfl ?_
  refine lv_aload_n hx hb d_Tape_init_4 rfl (lv_at hl 0 rfl) ?_
  refine lv_sipush (v := 300) hx hb d_Tape_init_5 (by decide) ?_
  refine va_newa (atype := .char) (a0 := (300, .inl (fun _ => 0))) (N' := 300) (ty := .char) hx hb (hts _ m_1_43) rfl hK hP hD hS hA (fun _ => rfl) (by decide) (by decide) (by decide) (Nat.le_of_ble_eq_true rfl) (Nat.le_of_ble_eq_true rfl) d_Tape_init_8 (fun q8 c8 H hK hP hD hS => ?_)
  have hP : va_P D vwCl [(h0, .inr (2, [.null, .int 0])), (q8, .inl (c8, 300, .inl (fun _ => 0)))] H := hP
  have hD : va_D A [(h0, .inr (2, [.null, .int 0])), (q8, .inl (c8, 300, .inl (fun _ => 0)))] := hD
  have hK : va_K D vwCl [(c8, .char)] s := hK
  refine va_putF (D := D) (ci := 2) (v := .ref q8) (ty := .array .char) (C := "HeadDesk$Tape") (T := F_Tape) (N := 2) hx hb hts a_Tape t_Tape k_Tape n_Tape hown hK hP hD hS 0 rfl rfl 0 (by decide) (hts _ m_1_36) (fun _ h9 => h9) rfl hin rfl (by decide +kernel) rfl rfl (Nat.le_of_ble_eq_true rfl) d_Tape_init_10 (fun H locs hP hD hS => ?_)
  have hP : va_P D vwCl [(h0, .inr (2, [.ref q8, .int 0])), (q8, .inl (c8, 300, .inl (fun _ => 0)))] H := hP
  have hD : va_D A [(h0, .inr (2, [.ref q8, .int 0])), (q8, .inl (c8, 300, .inl (fun _ => 0)))] := hD
  refine lv_aload_n hx hb d_Tape_init_13 rfl (lv_at hl 0 rfl) ?_
  refine lv_iconst (v := 0) hx hb d_Tape_init_14 (by decide) ?_
  refine va_put (D := D) (ci := 2) (v := .int 0) (ty := .int) (C := "HeadDesk$Tape") (T := F_Tape) (N := 2) hx hb hts a_Tape t_Tape k_Tape n_Tape hown hK hP hD hS 0 rfl rfl 1 (by decide) (hts _ m_1_37) (fun _ h9 => h9) rfl (by decide +kernel) rfl rfl (Nat.le_of_ble_eq_true rfl) d_Tape_init_15 (fun H locs hP hD hS => ?_)
  have hP : va_P D vwCl [(h0, .inr (2, [.ref q8, .int 0])), (q8, .inl (c8, 300, .inl (fun _ => 0)))] H := hP
  have hD : va_D A [(h0, .inr (2, [.ref q8, .int 0])), (q8, .inl (c8, 300, .inl (fun _ => 0)))] := hD
  obtain ⟨u, eu⟩ : ∃ z : (Nat → Nat) × (Nat → ClassId), z = (fun k => ([q8] : List Nat).getD k 0, fun k => ([c8] : List ClassId).getD k c8) := ⟨_, rfl⟩
  have hP9 : va_P D vwCl [(h0, .inr (2, [.ref (u.1 0), .int 0])), (u.1 0, .inl (u.2 0, 300, .inl (fun _ => 0)))] H := by rw [eu]; exact hP.sub [0, 1] rfl
  have hD9 : va_D A [(h0, .inr (2, [.ref (u.1 0), .int 0])), (u.1 0, .inl (u.2 0, 300, .inl (fun _ => 0)))] := by rw [eu]; exact hD.sub [0, 1] (by decide) rfl
  have hK9 : va_K D vwCl [(u.2 0, .char)] s := by rw [eu]; exact hK.sub [0] rfl
  refine W.widen (k := 1) (n := 300) (Nat.le_of_ble_eq_true rfl) (Nat.le_of_ble_eq_true rfl) ?_
  exact W.vret hx hb hr (fun t ht hW => ⟨⟨u, rfl, trivial, by rw [ht]; exact hP9, va_K.moved hW.alike hK9, hD9⟩, hS.F ht⟩) hS.2.2 d_Tape_init_18
set_option maxHeartbeats 4000000 in
set_option maxRecDepth 100000 in
theorem c_Head_init (h0 : Nat) (sz : Nat) : Met l y_Head_init w_Head_init (rmC 2 2 26) (hx_PcN D [] adK adV tF [(h0, .inr (0, [.null, .null]))] [.ref h0] sz) (va_Qv (fun _ : (Nat → Nat) × (Nat → ClassId) => True) (fun u t => va_P D vwCl [(h0, .inr (0, [.ref (u.1 0), .ref (u.1 1)])), (u.1 0, .inl (u.2 0, 18, .inl (fun _ => 0))), (u.1 1, .inl (u.2 1, 8, .inl (fun _ => 0)))] t.heap ∧ va_K D vwCl [(u.2 0, .int), (u.2 1, .int)] t ∧ va_D (va_A [(h0, .inr (0, [.null, .null]))] sz) [(h0, .inr (0, [.ref (u.1 0), .ref (u.1 1)])), (u.1 0, .inl (u.2 0, 18, .inl (fun _ => 0))), (u.1 1, .inl (u.2 1, 8, .inl (fun _ => 0)))]) (va_A [(h0, .inr (0, [.null, .null]))] sz)) 2 26 (va_A [(h0, .inr (0, [.null, .null]))] sz) := by
  refine Met.ofW (cc := b_Head_init) (maxL := 1) (ret := none) (by decide) rfl ?_
  intro p e s m args below meth c s₁ B hml hv
  obtain ⟨rfl, hsz, hP, hX, hD0, hN⟩ := hv
  have hx := B.exec
  have hb := B.bytes
  have hr := B.returns
  have hts := atoms_spec (ws := w_Head_init) B.pre
  have hts : ∀ w ∈ aw, w.before ([.ref h0] : List Value).toArray s = true := fun w h => hts w (List.mem_cons_of_mem _ h)
  have hown : s.vm.findClass "HeadDesk$Head" = some m.cls := findClass_of_methodNamed B.named
  have hlocks := B.notSynchronized
  have hin := (name_of_methodNamed B.named B.method).1
  subst hsz
  have hD := hD0.self (sz := s.heap.size)
  generalize hAe : va_A [(h0, .inr (0, [.null, .null]))] s.heap.size = A at hX hD ⊢
  have hA : ∀ q : Nat, s.heap.size ≤ q → A q := fun q h => by rw [← hAe]; exact Or.inr h
  have hS : va_S A s.heap s.heap [] := va_S.rf
  have hP : va_P D vwCl [(h0, .inr (0, [.null, .null]))] s.heap := hP
  have hD : va_D A [(h0, .inr (0, [.null, .null]))] := hD
  have hK := hX.1
  have hl := lv_entry ([.ref h0]) (n := 1) (Nat.le_of_ble_eq_true rfl)
  rw [lg_entry_eq]
  generalize (lg_sl ([.ref h0]) ++ List.replicate (1 - (lg_sl ([.ref h0])).length) Slot.unset).toArray = ls at hl ⊢
  have hl : lv_has ls 1 [(0, .ref h0)] := hl
  refine lv_aload_n hx hb d_Head_init_0 rfl (lv_at hl 0 rfl) ?_
  refine W.objInit hx hb hown (hts _ m_1_49) (hts _ m_1_22) (hts _ m_1_23) rfl (by rw [hml]; exact hl.1) rfl d_Head_init_1 (Nat.le_of_ble_eq_true rfl) (Nat.le_of_ble_eq_true rfl) ?_
  refine W.eq (g2 := F0 m 4 ls []) rfl ?_
  refine lv_aload_n hx hb d_Head_init_4 rfl (lv_at hl 0 rfl) ?_
  refine va_gets hx hb hX.2.2.1 hS hown (hts _ m_1_50) (fun _ h9 => h9) d_Head_init_5 ?_
  refine va_tlen (v := 18) hx hb hX.2.2.2.1 hS rfl d_Head_init_8 ?_
  refine va_newa (atype := .int) (a0 := (18, .inl (fun _ => 0))) (N' := 18) (ty := .int) hx hb (hts _ m_1_59) rfl hK hP hD hS hA (fun _ => rfl) (by decide) (by decide) (by decide) (Nat.le_of_ble_eq_true rfl) (Nat.le_of_ble_eq_true rfl) d_Head_init_9 (fun q9 c9 H hK hP hD hS => ?_)
  have hP : va_P D vwCl [(h0, .inr (0, [.null, .null])), (q9, .inl (c9, 18, .inl (fun _ => 0)))] H := hP
  have hD : va_D A [(h0, .inr (0, [.null, .null])), (q9, .inl (c9, 18, .inl (fun _ => 0)))] := hD
  have hK : va_K D vwCl [(c9, .int)] s := hK
  refine va_putF (D := D) (ci := 0) (v := .ref q9) (ty := .array .int) (C := "HeadDesk$Head") (T := F_Head) (N := 2) hx hb hts a_Head t_Head k_Head n_Head hown hK hP hD hS 0 rfl rfl 0 (by decide) (hts _ m_1_52) (fun _ h9 => h9) rfl hin rfl (by decide +kernel) rfl rfl (Nat.le_of_ble_eq_true rfl) d_Head_init_11 (fun H locs hP hD hS => ?_)
  have hP : va_P D vwCl [(h0, .inr (0, [.ref q9, .null])), (q9, .inl (c9, 18, .inl (fun _ => 0)))] H := hP
  have hD : va_D A [(h0, .inr (0, [.ref q9, .null])), (q9, .inl (c9, 18, .inl (fun _ => 0)))] := hD
  refine lv_aload_n hx hb d_Head_init_14 rfl (lv_at hl 0 rfl) ?_
  refine lv_bipush (v := 8) hx hb d_Head_init_15 (by decide) ?_
  refine va_newa (atype := .int) (a0 := (8, .inl (fun _ => 0))) (N' := 8) (ty := .int) hx hb (hts _ m_1_59) rfl hK hP hD hS hA (fun _ => rfl) (by decide) (by decide) (by decide) (Nat.le_of_ble_eq_true rfl) (Nat.le_of_ble_eq_true rfl) d_Head_init_17 (fun q17 c17 H hK hP hD hS => ?_)
  have hP : va_P D vwCl [(h0, .inr (0, [.ref q9, .null])), (q9, .inl (c9, 18, .inl (fun _ => 0))), (q17, .inl (c17, 8, .inl (fun _ => 0)))] H := hP
  have hD : va_D A [(h0, .inr (0, [.ref q9, .null])), (q9, .inl (c9, 18, .inl (fun _ => 0))), (q17, .inl (c17, 8, .inl (fun _ => 0)))] := hD
  have hK : va_K D vwCl [(c9, .int), (c17, .int)] s := hK
  refine va_putF (D := D) (ci := 0) (v := .ref q17) (ty := .array .int) (C := "HeadDesk$Head") (T := F_Head) (N := 2) hx hb hts a_Head t_Head k_Head n_Head hown hK hP hD hS 0 rfl rfl 1 (by decide) (hts _ m_1_53) (fun _ h9 => h9) rfl hin rfl (by decide +kernel) rfl rfl (Nat.le_of_ble_eq_true rfl) d_Head_init_19 (fun H locs hP hD hS => ?_)
  have hP : va_P D vwCl [(h0, .inr (0, [.ref q9, .ref q17])), (q9, .inl (c9, 18, .inl (fun _ => 0))), (q17, .inl (c17, 8, .inl (fun _ => 0)))] H := hP
  have hD : va_D A [(h0, .inr (0, [.ref q9, .ref q17])), (q9, .inl (c9, 18, .inl (fun _ => 0))), (q17, .inl (c17, 8, .inl (fun _ => 0)))] := hD
  obtain ⟨u, eu⟩ : ∃ z : (Nat → Nat) × (Nat → ClassId), z = (fun k => ([q9, q17] : List Nat).getD k 0, fun k => ([c9, c17] : List ClassId).getD k c9) := ⟨_, rfl⟩
  have hP9 : va_P D vwCl [(h0, .inr (0, [.ref (u.1 0), .ref (u.1 1)])), (u.1 0, .inl (u.2 0, 18, .inl (fun _ => 0))), (u.1 1, .inl (u.2 1, 8, .inl (fun _ => 0)))] H := by rw [eu]; exact hP.sub [0, 1, 2] rfl
  have hD9 : va_D A [(h0, .inr (0, [.ref (u.1 0), .ref (u.1 1)])), (u.1 0, .inl (u.2 0, 18, .inl (fun _ => 0))), (u.1 1, .inl (u.2 1, 8, .inl (fun _ => 0)))] := by rw [eu]; exact hD.sub [0, 1, 2] (by decide) rfl
  have hK9 : va_K D vwCl [(u.2 0, .int), (u.2 1, .int)] s := by rw [eu]; exact hK.sub [0, 1] rfl
  refine W.widen (k := 2) (n := 26) (Nat.le_of_ble_eq_true rfl) (Nat.le_of_ble_eq_true rfl) ?_
  exact W.vret hx hb hr (fun t ht hW => ⟨⟨u, rfl, trivial, by rw [ht]; exact hP9, va_K.moved hW.alike hK9, hD9⟩, hS.F ht⟩) hS.2.2 d_Head_init_22
set_option maxHeartbeats 4000000 in
set_option maxRecDepth 100000 in
theorem c_Reader_init (h0 : Nat) (sz : Nat) : Met l y_Reader_init w_Reader_init (rmC 3 7 530) (hx_PcN D [] adK adV tF [(h0, .inr (1, [.null, .null, .null, .null, .int 0, .int 0, .int 0, .int 0, .int 0, .int 0, .int 0]))] [.ref h0] sz) (va_Qv (fun _ : (Nat → Nat) × (Nat → ClassId) => True) (fun u t => va_P D vwCl [(h0, .inr (1, [.ref (u.1 0), .ref (u.1 2), .ref (u.1 3), .ref (u.1 4), .int 0, .int 0, .int 0, .int (-1), .int 0, .int 0, .int 0])), (u.1 0, .inr (2, [.ref (u.1 1), .int 0])), (u.1 1, .inl (u.2 0, 300, .inl (fun _ => 0))), (u.1 2, .inl (u.2 1, 100, .inl (fun _ => 0))), (u.1 3, .inl (u.2 2, 100, .inl (fun _ => 0))), (u.1 4, .inr (0, [.ref (u.1 5), .ref (u.1 6)])), (u.1 5, .inl (u.2 3, 18, .inl (fun _ => 0))), (u.1 6, .inl (u.2 4, 8, .inl (fun _ => 0)))] t.heap ∧ va_K D vwCl [(u.2 0, .char), (u.2 1, .int), (u.2 2, .int), (u.2 3, .int), (u.2 4, .int)] t ∧ va_D (va_A [(h0, .inr (1, [.null, .null, .null, .null, .int 0, .int 0, .int 0, .int 0, .int 0, .int 0, .int 0]))] sz) [(h0, .inr (1, [.ref (u.1 0), .ref (u.1 2), .ref (u.1 3), .ref (u.1 4), .int 0, .int 0, .int 0, .int (-1), .int 0, .int 0, .int 0])), (u.1 0, .inr (2, [.ref (u.1 1), .int 0])), (u.1 1, .inl (u.2 0, 300, .inl (fun _ => 0))), (u.1 2, .inl (u.2 1, 100, .inl (fun _ => 0))), (u.1 3, .inl (u.2 2, 100, .inl (fun _ => 0))), (u.1 4, .inr (0, [.ref (u.1 5), .ref (u.1 6)])), (u.1 5, .inl (u.2 3, 18, .inl (fun _ => 0))), (u.1 6, .inl (u.2 4, 8, .inl (fun _ => 0)))]) (va_A [(h0, .inr (1, [.null, .null, .null, .null, .int 0, .int 0, .int 0, .int 0, .int 0, .int 0, .int 0]))] sz)) 7 530 (va_A [(h0, .inr (1, [.null, .null, .null, .null, .int 0, .int 0, .int 0, .int 0, .int 0, .int 0, .int 0]))] sz) := by
  refine Met.ofW (cc := b_Reader_init) (maxL := 1) (ret := none) (by decide) rfl ?_
  intro p e s m args below meth c s₁ B hml hv
  obtain ⟨rfl, hsz, hP, hX, hD0, hN⟩ := hv
  have hx := B.exec
  have hb := B.bytes
  have hr := B.returns
  have hts := atoms_spec (ws := w_Reader_init) B.pre
  have hts : ∀ w ∈ aw, w.before ([.ref h0] : List Value).toArray s = true := fun w h => hts w (List.mem_cons_of_mem _ h)
  have hown : s.vm.findClass "HeadDesk$Reader" = some m.cls := findClass_of_methodNamed B.named
  have hlocks := B.notSynchronized
  have hin := (name_of_methodNamed B.named B.method).1
  subst hsz
  have hD := hD0.self (sz := s.heap.size)
  generalize hAe : va_A [(h0, .inr (1, [.null, .null, .null, .null, .int 0, .int 0, .int 0, .int 0, .int 0, .int 0, .int 0]))] s.heap.size = A at hX hD ⊢
  have hA : ∀ q : Nat, s.heap.size ≤ q → A q := fun q h => by rw [← hAe]; exact Or.inr h
  have hS : va_S A s.heap s.heap [] := va_S.rf
  have hP : va_P D vwCl [(h0, .inr (1, [.null, .null, .null, .null, .int 0, .int 0, .int 0, .int 0, .int 0, .int 0, .int 0]))] s.heap := hP
  have hD : va_D A [(h0, .inr (1, [.null, .null, .null, .null, .int 0, .int 0, .int 0, .int 0, .int 0, .int 0, .int 0]))] := hD
  have hK := hX.1
  have hl := lv_entry ([.ref h0]) (n := 1) (Nat.le_of_ble_eq_true rfl)
  rw [lg_entry_eq]
  generalize (lg_sl ([.ref h0]) ++ List.replicate (1 - (lg_sl ([.ref h0])).length) Slot.unset).toArray = ls at hl ⊢
  have hl : lv_has ls 1 [(0, .ref h0)] := hl
  refine lv_aload_n hx hb d_Reader_init_0 rfl (lv_at hl 0 rfl) ?_
  refine W.objInit hx hb hown (hts _ m_1_29) (hts _ m_1_22) (hts _ m_1_23) rfl (by rw [hml]; exact hl.1) rfl d_Reader_init_1 (Nat.le_of_ble_eq_true rfl) (Nat.le_of_ble_eq_true rfl) ?_
  refine W.eq (g2 := F0 m 4 ls []) rfl ?_
  refine lv_aload_n hx hb d_Reader_init_4 rfl (lv_at hl 0 rfl) ?_
  refine va_new (ci := 2) (fs := [.null, .int 0]) (C := "HeadDesk$Tape") (T := F_Tape) (N := 2) hx hb hts a_Tape t_Tape k_Tape hown (hts _ m_1_30) (hts _ m_1_31) (hts _ m_1_3) hK hP hD hS hA rfl (by decide +kernel) (Nat.le_of_ble_eq_true rfl) (Nat.le_of_ble_eq_true rfl) d_Reader_init_5 (fun q5 H hP hD hS => ?_)
  have hP : va_P D vwCl [(h0, .inr (1, [.null, .null, .null, .null, .int 0, .int 0, .int 0, .int 0, .int 0, .int 0, .int 0])), (q5, .inr (2, [.null, .int 0]))] H := hP
  have hD : va_D A [(h0, .inr (1, [.null, .null, .null, .null, .int 0, .int 0, .int 0, .int 0, .int 0, .int 0, .int 0])), (q5, .inr (2, [.null, .int 0]))] := hD
  refine lv_dup hx hb d_Reader_init_8 rfl ?_
  have hFc := va_free (wc := [(q5, .inr (2, [.null, .int 0]))]) hD hS hA [1] rfl
  have hpc := hx_preN ⟨va_K.sub (tys' := []) hK [] rfl, hX.2⟩ hN hA hP hD hS [1] (wc := [(q5, .inr (2, [.null, .int 0]))]) rfl (by decide) [.ref q5]
  refine va_callv (va_runIN (As := []) (rest := [.ref q5, .ref h0]) ⟨hx, hb, hml, hown, hts⟩ (c_Tape_init q5 H.size) ⟨va_cnB 0 hts (fun w h => ⟨(List.mem_cons.mp h).elim (fun e => by rw [e]; exact m_1_34) id, aw_good ((List.mem_cons.mp h).elim (fun e => by rw [e]; exact m_1_34) id)⟩) rfl rfl rfl hN.2.2.2.2.2.1 (hts _ m_1_3) (by decide +kernel) ⟨Nat.le_of_ble_eq_true rfl, Nat.le_of_ble_eq_true rfl⟩, rfl, hts _ m_1_33⟩ hpc rfl rfl hl.1 rfl (lv_room (Nat.le_of_ble_eq_true rfl)) d_Reader_init_9 ⟨Nat.le_of_ble_eq_true rfl, Nat.le_of_ble_eq_true rfl⟩) hS (fun q _ h => hFc q h) hFc (fun u9 t H1 locs ht hvm hw hB hz1 hk1 hS => ?_)
  obtain ⟨hP1, hK1, hD1⟩ := hB
  rw [ht] at hP1
  have hK1 := va_K.moved hvm.symm hK1
  obtain ⟨hP, hD⟩ := va_join (wr := [(h0, .inr (1, [.null, .null, .null, .null, .int 0, .int 0, .int 0, .int 0, .int 0, .int 0, .int 0]))]) (w1 := [(q5, .inr (2, [.ref (u9.1 0), .int 0])), (u9.1 0, .inl (u9.2 0, 300, .inl (fun _ => 0)))]) hP hD [1] [0] rfl rfl (by decide) (by decide) hk1 hFc hP1 hD1
  have hK := hK.app hK1
  generalize H1 = H at hP hS ⊢
  have hP : va_P D vwCl [(h0, .inr (1, [.null, .null, .null, .null, .int 0, .int 0, .int 0, .int 0, .int 0, .int 0, .int 0])), (q5, .inr (2, [.ref (u9.1 0), .int 0])), (u9.1 0, .inl (u9.2 0, 300, .inl (fun _ => 0)))] H := hP
  have hD : va_D A [(h0, .inr (1, [.null, .null, .null, .null, .int 0, .int 0, .int 0, .int 0, .int 0, .int 0, .int 0])), (q5, .inr (2, [.ref (u9.1 0), .int 0])), (u9.1 0, .inl (u9.2 0, 300, .inl (fun _ => 0)))] := hD
  have hK : va_K D vwCl [(u9.2 0, .char)] s := hK
  refine va_putF (D := D) (ci := 1) (v := .ref q5) (ty := (.object "HeadDesk$Tape")) (C := "HeadDesk$Reader") (T := F_Reader) (N := 11) hx hb hts a_Reader t_Reader k_Reader n_Reader hown hK hP hD hS 0 rfl rfl 0 (by decide) (hts _ m_1_60) (fun _ h9 => h9) rfl hin rfl (by decide +kernel) rfl rfl (Nat.le_of_ble_eq_true rfl) d_Reader_init_12 (fun H locs hP hD hS => ?_)
  have hP : va_P D vwCl [(h0, .inr (1, [.ref q5, .null, .null, .null, .int 0, .int 0, .int 0, .int 0, .int 0, .int 0, .int 0])), (q5, .inr (2, [.ref (u9.1 0), .int 0])), (u9.1 0, .inl (u9.2 0, 300, .inl (fun _ => 0)))] H := hP
  have hD : va_D A [(h0, .inr (1, [.ref q5, .null, .null, .null, .int 0, .int 0, .int 0, .int 0, .int 0, .int 0, .int 0])), (q5, .inr (2, [.ref (u9.1 0), .int 0])), (u9.1 0, .inl (u9.2 0, 300, .inl (fun _ => 0)))] := hD
  refine lv_aload_n hx hb d_Reader_init_15 rfl (lv_at hl 0 rfl) ?_
  refine lv_bipush (v := 100) hx hb d_Reader_init_16 (by decide) ?_
  refine va_newa (atype := .int) (a0 := (100, .inl (fun _ => 0))) (N' := 100) (ty := .int) hx hb (hts _ m_1_59) rfl hK hP hD hS hA (fun _ => rfl) (by decide) (by decide) (by decide) (Nat.le_of_ble_eq_true rfl) (Nat.le_of_ble_eq_true rfl) d_Reader_init_18 (fun q18 c18 H hK hP hD hS => ?_)
  have hP : va_P D vwCl [(h0, .inr (1, [.ref q5, .null, .null, .null, .int 0, .int 0, .int 0, .int 0, .int 0, .int 0, .int 0])), (q5, .inr (2, [.ref (u9.1 0), .int 0])), (u9.1 0, .inl (u9.2 0, 300, .inl (fun _ => 0))), (q18, .inl (c18, 100, .inl (fun _ => 0)))] H := hP
  have hD : va_D A [(h0, .inr (1, [.ref q5, .null, .null, .null, .int 0, .int 0, .int 0, .int 0, .int 0, .int 0, .int 0])), (q5, .inr (2, [.ref (u9.1 0), .int 0])), (u9.1 0, .inl (u9.2 0, 300, .inl (fun _ => 0))), (q18, .inl (c18, 100, .inl (fun _ => 0)))] := hD
  have hK : va_K D vwCl [(u9.2 0, .char), (c18, .int)] s := hK
  refine va_putF (D := D) (ci := 1) (v := .ref q18) (ty := .array .int) (C := "HeadDesk$Reader") (T := F_Reader) (N := 11) hx hb hts a_Reader t_Reader k_Reader n_Reader hown hK hP hD hS 0 rfl rfl 1 (by decide) (hts _ m_1_62) (fun _ h9 => h9) rfl hin rfl (by decide +kernel) rfl rfl (Nat.le_of_ble_eq_true rfl) d_Reader_init_20 (fun H locs hP hD hS => ?_)
  have hP : va_P D vwCl [(h0, .inr (1, [.ref q5, .ref q18, .null, .null, .int 0, .int 0, .int 0, .int 0, .int 0, .int 0, .int 0])), (q5, .inr (2, [.ref (u9.1 0), .int 0])), (u9.1 0, .inl (u9.2 0, 300, .inl (fun _ => 0))), (q18, .inl (c18, 100, .inl (fun _ => 0)))] H := hP
  have hD : va_D A [(h0, .inr (1, [.ref q5, .ref q18, .null, .null, .int 0, .int 0, .int 0, .int 0, .int 0, .int 0, .int 0])), (q5, .inr (2, [.ref (u9.1 0), .int 0])), (u9.1 0, .inl (u9.2 0, 300, .inl (fun _ => 0))), (q18, .inl (c18, 100, .inl (fun _ => 0)))] := hD
  refine lv_aload_n hx hb d_Reader_init_23 rfl (lv_at hl 0 rfl) ?_
  refine lv_bipush (v := 100) hx hb d_Reader_init_24 (by decide) ?_
  refine va_newa (atype := .int) (a0 := (100, .inl (fun _ => 0))) (N' := 100) (ty := .int) hx hb (hts _ m_1_59) rfl hK hP hD hS hA (fun _ => rfl) (by decide) (by decide) (by decide) (Nat.le_of_ble_eq_true rfl) (Nat.le_of_ble_eq_true rfl) d_Reader_init_26 (fun q26 c26 H hK hP hD hS => ?_)
  have hP : va_P D vwCl [(h0, .inr (1, [.ref q5, .ref q18, .null, .null, .int 0, .int 0, .int 0, .int 0, .int 0, .int 0, .int 0])), (q5, .inr (2, [.ref (u9.1 0), .int 0])), (u9.1 0, .inl (u9.2 0, 300, .inl (fun _ => 0))), (q18, .inl (c18, 100, .inl (fun _ => 0))), (q26, .inl (c26, 100, .inl (fun _ => 0)))] H := hP
  have hD : va_D A [(h0, .inr (1, [.ref q5, .ref q18, .null, .null, .int 0, .int 0, .int 0, .int 0, .int 0, .int 0, .int 0])), (q5, .inr (2, [.ref (u9.1 0), .int 0])), (u9.1 0, .inl (u9.2 0, 300, .inl (fun _ => 0))), (q18, .inl (c18, 100, .inl (fun _ => 0))), (q26, .inl (c26, 100, .inl (fun _ => 0)))] := hD
  have hK : va_K D vwCl [(u9.2 0, .char), (c18, .int), (c26, .int)] s := hK
  refine va_putF (D := D) (ci := 1) (v := .ref q26) (ty := .array .int) (C := "HeadDesk$Reader") (T := F_Reader) (N := 11) hx hb hts a_Reader t_Reader k_Reader n_Reader hown hK hP hD hS 0 rfl rfl 2 (by decide) (hts _ m_1_63) (fun _ h9 => h9) rfl hin rfl (by decide +kernel) rfl rfl (Nat.le_of_ble_eq_true rfl) d_Reader_init_28 (fun H locs hP hD hS => ?_)
  have hP : va_P D vwCl [(h0, .inr (1, [.ref q5, .ref q18, .ref q26, .null, .int 0, .int 0, .int 0, .int 0, .int 0, .int 0, .int 0])), (q5, .inr (2, [.ref (u9.1 0), .int 0])), (u9.1 0, .inl (u9.2 0, 300, .inl (fun _ => 0))), (q18, .inl (c18, 100, .inl (fun _ => 0))), (q26, .inl (c26, 100, .inl (fun _ => 0)))] H := hP
  have hD : va_D A [(h0, .inr (1, [.ref q5, .ref q18, .ref q26, .null, .int 0, .int 0, .int 0, .int 0, .int 0, .int 0, .int 0])), (q5, .inr (2, [.ref (u9.1 0), .int 0])), (u9.1 0, .inl (u9.2 0, 300, .inl (fun _ => 0))), (q18, .inl (c18, 100, .inl (fun _ => 0))), (q26, .inl (c26, 100, .inl (fun _ => 0)))] := hD
  refine lv_aload_n hx hb d_Reader_init_31 rfl (lv_at hl 0 rfl) ?_
  refine va_new (ci := 0) (fs := [.null, .null]) (C := "HeadDesk$Head") (T := F_Head) (N := 2) hx hb hts a_Head t_Head k_Head hown (hts _ m_1_44) (hts _ m_1_45) (hts _ m_1_4) hK hP hD hS hA rfl (by decide +kernel) (Nat.le_of_ble_eq_true rfl) (Nat.le_of_ble_eq_true rfl) d_Reader_init_32 (fun q32 H hP hD hS => ?_)
  have hP : va_P D vwCl [(h0, .inr (1, [.ref q5, .ref q18, .ref q26, .null, .int 0, .int 0, .int 0, .int 0, .int 0, .int 0, .int 0])), (q5, .inr (2, [.ref (u9.1 0), .int 0])), (u9.1 0, .inl (u9.2 0, 300, .inl (fun _ => 0))), (q18, .inl (c18, 100, .inl (fun _ => 0))), (q26, .inl (c26, 100, .inl (fun _ => 0))), (q32, .inr (0, [.null, .null]))] H := hP
  have hD : va_D A [(h0, .inr (1, [.ref q5, .ref q18, .ref q26, .null, .int 0, .int 0, .int 0, .int 0, .int 0, .int 0, .int 0])), (q5, .inr (2, [.ref (u9.1 0), .int 0])), (u9.1 0, .inl (u9.2 0, 300, .inl (fun _ => 0))), (q18, .inl (c18, 100, .inl (fun _ => 0))), (q26, .inl (c26, 100, .inl (fun _ => 0))), (q32, .inr (0, [.null, .null]))] := hD
  refine lv_dup hx hb d_Reader_init_35 rfl ?_
  have hFc := va_free (wc := [(q32, .inr (0, [.null, .null]))]) hD hS hA [5] rfl
  have hpc := hx_preN ⟨va_K.sub (tys' := []) hK [] rfl, hX.2⟩ hN hA hP hD hS [5] (wc := [(q32, .inr (0, [.null, .null]))]) rfl (by decide) [.ref q32]
  refine va_callv (va_runIN (As := []) (rest := [.ref q32, .ref h0]) ⟨hx, hb, hml, hown, hts⟩ (c_Head_init q32 H.size) ⟨va_cnB 0 hts (fun w h => ⟨(List.mem_cons.mp h).elim (fun e => by rw [e]; exact m_1_48) id, aw_good ((List.mem_cons.mp h).elim (fun e => by rw [e]; exact m_1_48) id)⟩) rfl rfl rfl hN.2.2.2.2.2.2.1 (hts _ m_1_4) (by decide +kernel) ⟨Nat.le_of_ble_eq_true rfl, Nat.le_of_ble_eq_true rfl⟩, rfl, hts _ m_1_47⟩ hpc rfl rfl hl.1 rfl (lv_room (Nat.le_of_ble_eq_true rfl)) d_Reader_init_36 ⟨Nat.le_of_ble_eq_true rfl, Nat.le_of_ble_eq_true rfl⟩) hS (fun q _ h => hFc q h) hFc (fun u36 t H1 locs ht hvm hw hB hz1 hk1 hS => ?_)
  obtain ⟨hP1, hK1, hD1⟩ := hB
  rw [ht] at hP1
  have hK1 := va_K.moved hvm.symm hK1
  obtain ⟨hP, hD⟩ := va_join (wr := [(h0, .inr (1, [.ref q5, .ref q18, .ref q26, .null, .int 0, .int 0, .int 0, .int 0, .int 0, .int 0, .int 0])), (q5, .inr (2, [.ref (u9.1 0), .int 0])), (u9.1 0, .inl (u9.2 0, 300, .inl (fun _ => 0))), (q18, .inl (c18, 100, .inl (fun _ => 0))), (q26, .inl (c26, 100, .inl (fun _ => 0)))]) (w1 := [(q32, .inr (0, [.ref (u36.1 0), .ref (u36.1 1)])), (u36.1 0, .inl (u36.2 0, 18, .inl (fun _ => 0))), (u36.1 1, .inl (u36.2 1, 8, .inl (fun _ => 0)))]) hP hD [5] [0, 1, 2, 3, 4] rfl rfl (by decide) (by decide) hk1 hFc hP1 hD1
  have hK := hK.app hK1
  generalize H1 = H at hP hS ⊢
  have hP : va_P D vwCl [(h0, .inr (1, [.ref q5, .ref q18, .ref q26, .null, .int 0, .int 0, .int 0, .int 0, .int 0, .int 0, .int 0])), (q5, .inr (2, [.ref (u9.1 0), .int 0])), (u9.1 0, .inl (u9.2 0, 300, .inl (fun _ => 0))), (q18, .inl (c18, 100, .inl (fun _ => 0))), (q26, .inl (c26, 100, .inl (fun _ => 0))), (q32, .inr (0, [.ref (u36.1 0), .ref (u36.1 1)])), (u36.1 0, .inl (u36.2 0, 18, .inl (fun _ => 0))), (u36.1 1, .inl (u36.2 1, 8, .inl (fun _ => 0)))] H := hP
  have hD : va_D A [(h0, .inr (1, [.ref q5, .ref q18, .ref q26, .null, .int 0, .int 0, .int 0, .int 0, .int 0, .int 0, .int 0])), (q5, .inr (2, [.ref (u9.1 0), .int 0])), (u9.1 0, .inl (u9.2 0, 300, .inl (fun _ => 0))), (q18, .inl (c18, 100, .inl (fun _ => 0))), (q26, .inl (c26, 100, .inl (fun _ => 0))), (q32, .inr (0, [.ref (u36.1 0), .ref (u36.1 1)])), (u36.1 0, .inl (u36.2 0, 18, .inl (fun _ => 0))), (u36.1 1, .inl (u36.2 1, 8, .inl (fun _ => 0)))] := hD
  have hK : va_K D vwCl [(u9.2 0, .char), (c18, .int), (c26, .int), (u36.2 0, .int), (u36.2 1, .int)] s := hK
  refine va_put (D := D) (ci := 1) (v := .ref q32) (ty := (.object "HeadDesk$Head")) (C := "HeadDesk$Reader") (T := F_Reader) (N := 11) hx hb hts a_Reader t_Reader k_Reader n_Reader hown hK hP hD hS 0 rfl rfl 3 (by decide) (hts _ m_1_64) (fun _ h9 => h9) rfl (by decide +kernel) rfl rfl (Nat.le_of_ble_eq_true rfl) d_Reader_init_39 (fun H locs hP hD hS => ?_)
  have hP : va_P D vwCl [(h0, .inr (1, [.ref q5, .ref q18, .ref q26, .ref q32, .int 0, .int 0, .int 0, .int 0, .int 0, .int 0, .int 0])), (q5, .inr (2, [.ref (u9.1 0), .int 0])), (u9.1 0, .inl (u9.2 0, 300, .inl (fun _ => 0))), (q18, .inl (c18, 100, .inl (fun _ => 0))), (q26, .inl (c26, 100, .inl (fun _ => 0))), (q32, .inr (0, [.ref (u36.1 0), .ref (u36.1 1)])), (u36.1 0, .inl (u36.2 0, 18, .inl (fun _ => 0))), (u36.1 1, .inl (u36.2 1, 8, .inl (fun _ => 0)))] H := hP
  have hD : va_D A [(h0, .inr (1, [.ref q5, .ref q18, .ref q26, .ref q32, .int 0, .int 0, .int 0, .int 0, .int 0, .int 0, .int 0])), (q5, .inr (2, [.ref (u9.1 0), .int 0])), (u9.1 0, .inl (u9.2 0, 300, .inl (fun _ => 0))), (q18, .inl (c18, 100, .inl (fun _ => 0))), (q26, .inl (c26, 100, .inl (fun _ => 0))), (q32, .inr (0, [.ref (u36.1 0), .ref (u36.1 1)])), (u36.1 0, .inl (u36.2 0, 18, .inl (fun _ => 0))), (u36.1 1, .inl (u36.2 1, 8, .inl (fun _ => 0)))] := hD
  refine lv_aload_n hx hb d_Reader_init_42 rfl (lv_at hl 0 rfl) ?_
  refine lv_iconst (v := 0) hx hb d_Reader_init_43 (by decide) ?_
  refine va_put (D := D) (ci := 1) (v := .int 0) (ty := .int) (C := "HeadDesk$Reader") (T := F_Reader) (N := 11) hx hb hts a_Reader t_Reader k_Reader n_Reader hown hK hP hD hS 0 rfl rfl 4 (by decide) (hts _ m_1_65) (fun _ h9 => h9) rfl (by decide +kernel) rfl rfl (Nat.le_of_ble_eq_true rfl) d_Reader_init_44 (fun H locs hP hD hS => ?_)
  have hP : va_P D vwCl [(h0, .inr (1, [.ref q5, .ref q18, .ref q26, .ref q32, .int 0, .int 0, .int 0, .int 0, .int 0, .int 0, .int 0])), (q5, .inr (2, [.ref (u9.1 0), .int 0])), (u9.1 0, .inl (u9.2 0, 300, .inl (fun _ => 0))), (q18, .inl (c18, 100, .inl (fun _ => 0))), (q26, .inl (c26, 100, .inl (fun _ => 0))), (q32, .inr (0, [.ref (u36.1 0), .ref (u36.1 1)])), (u36.1 0, .inl (u36.2 0, 18, .inl (fun _ => 0))), (u36.1 1, .inl (u36.2 1, 8, .inl (fun _ => 0)))] H := hP
  have hD : va_D A [(h0, .inr (1, [.ref q5, .ref q18, .ref q26, .ref q32, .int 0, .int 0, .int 0, .int 0, .int 0, .int 0, .int 0])), (q5, .inr (2, [.ref (u9.1 0), .int 0])), (u9.1 0, .inl (u9.2 0, 300, .inl (fun _ => 0))), (q18, .inl (c18, 100, .inl (fun _ => 0))), (q26, .inl (c26, 100, .inl (fun _ => 0))), (q32, .inr (0, [.ref (u36.1 0), .ref (u36.1 1)])), (u36.1 0, .inl (u36.2 0, 18, .inl (fun _ => 0))), (u36.1 1, .inl (u36.2 1, 8, .inl (fun _ => 0)))] := hD
  refine lv_aload_n hx hb d_Reader_init_47 rfl (lv_at hl 0 rfl) ?_
  refine lv_iconst (v := 0) hx hb d_Reader_init_48 (by decide) ?_
  refine va_put (D := D) (ci := 1) (v := .int 0) (ty := .int) (C := "HeadDesk$Reader") (T := F_Reader) (N := 11) hx hb hts a_Reader t_Reader k_Reader n_Reader hown hK hP hD hS 0 rfl rfl 5 (by decide) (hts _ m_1_66) (fun _ h9 => h9) rfl (by decide +kernel) rfl rfl (Nat.le_of_ble_eq_true rfl) d_Reader_init_49 (fun H locs hP hD hS => ?_)
  have hP : va_P D vwCl [(h0, .inr (1, [.ref q5, .ref q18, .ref q26, .ref q32, .int 0, .int 0, .int 0, .int 0, .int 0, .int 0, .int 0])), (q5, .inr (2, [.ref (u9.1 0), .int 0])), (u9.1 0, .inl (u9.2 0, 300, .inl (fun _ => 0))), (q18, .inl (c18, 100, .inl (fun _ => 0))), (q26, .inl (c26, 100, .inl (fun _ => 0))), (q32, .inr (0, [.ref (u36.1 0), .ref (u36.1 1)])), (u36.1 0, .inl (u36.2 0, 18, .inl (fun _ => 0))), (u36.1 1, .inl (u36.2 1, 8, .inl (fun _ => 0)))] H := hP
  have hD : va_D A [(h0, .inr (1, [.ref q5, .ref q18, .ref q26, .ref q32, .int 0, .int 0, .int 0, .int 0, .int 0, .int 0, .int 0])), (q5, .inr (2, [.ref (u9.1 0), .int 0])), (u9.1 0, .inl (u9.2 0, 300, .inl (fun _ => 0))), (q18, .inl (c18, 100, .inl (fun _ => 0))), (q26, .inl (c26, 100, .inl (fun _ => 0))), (q32, .inr (0, [.ref (u36.1 0), .ref (u36.1 1)])), (u36.1 0, .inl (u36.2 0, 18, .inl (fun _ => 0))), (u36.1 1, .inl (u36.2 1, 8, .inl (fun _ => 0)))] := hD
  refine lv_aload_n hx hb d_Reader_init_52 rfl (lv_at hl 0 rfl) ?_
  refine lv_iconst (v := 0) hx hb d_Reader_init_53 (by decide) ?_
  refine va_put (D := D) (ci := 1) (v := .int 0) (ty := .int) (C := "HeadDesk$Reader") (T := F_Reader) (N := 11) hx hb hts a_Reader t_Reader k_Reader n_Reader hown hK hP hD hS 0 rfl rfl 6 (by decide) (hts _ m_1_67) (fun _ h9 => h9) rfl (by decide +kernel) rfl rfl (Nat.le_of_ble_eq_true rfl) d_Reader_init_54 (fun H locs hP hD hS => ?_)
  have hP : va_P D vwCl [(h0, .inr (1, [.ref q5, .ref q18, .ref q26, .ref q32, .int 0, .int 0, .int 0, .int 0, .int 0, .int 0, .int 0])), (q5, .inr (2, [.ref (u9.1 0), .int 0])), (u9.1 0, .inl (u9.2 0, 300, .inl (fun _ => 0))), (q18, .inl (c18, 100, .inl (fun _ => 0))), (q26, .inl (c26, 100, .inl (fun _ => 0))), (q32, .inr (0, [.ref (u36.1 0), .ref (u36.1 1)])), (u36.1 0, .inl (u36.2 0, 18, .inl (fun _ => 0))), (u36.1 1, .inl (u36.2 1, 8, .inl (fun _ => 0)))] H := hP
  have hD : va_D A [(h0, .inr (1, [.ref q5, .ref q18, .ref q26, .ref q32, .int 0, .int 0, .int 0, .int 0, .int 0, .int 0, .int 0])), (q5, .inr (2, [.ref (u9.1 0), .int 0])), (u9.1 0, .inl (u9.2 0, 300, .inl (fun _ => 0))), (q18, .inl (c18, 100, .inl (fun _ => 0))), (q26, .inl (c26, 100, .inl (fun _ => 0))), (q32, .inr (0, [.ref (u36.1 0), .ref (u36.1 1)])), (u36.1 0, .inl (u36.2 0, 18, .inl (fun _ => 0))), (u36.1 1, .inl (u36.2 1, 8, .inl (fun _ => 0)))] := hD
  refine lv_aload_n hx hb d_Reader_init_57 rfl (lv_at hl 0 rfl) ?_
  refine lv_iconst (v := (-1)) hx hb d_Reader_init_58 (by decide) ?_
  refine va_put (D := D) (ci := 1) (v := .int (-1)) (ty := .int) (C := "HeadDesk$Reader") (T := F_Reader) (N := 11) hx hb hts a_Reader t_Reader k_Reader n_Reader hown hK hP hD hS 0 rfl rfl 7 (by decide) (hts _ m_1_68) (fun _ h9 => h9) rfl (by decide +kernel) rfl rfl (Nat.le_of_ble_eq_true rfl) d_Reader_init_59 (fun H locs hP hD hS => ?_)
  have hP : va_P D vwCl [(h0, .inr (1, [.ref q5, .ref q18, .ref q26, .ref q32, .int 0, .int 0, .int 0, .int (-1), .int 0, .int 0, .int 0])), (q5, .inr (2, [.ref (u9.1 0), .int 0])), (u9.1 0, .inl (u9.2 0, 300, .inl (fun _ => 0))), (q18, .inl (c18, 100, .inl (fun _ => 0))), (q26, .inl (c26, 100, .inl (fun _ => 0))), (q32, .inr (0, [.ref (u36.1 0), .ref (u36.1 1)])), (u36.1 0, .inl (u36.2 0, 18, .inl (fun _ => 0))), (u36.1 1, .inl (u36.2 1, 8, .inl (fun _ => 0)))] H := hP
  have hD : va_D A [(h0, .inr (1, [.ref q5, .ref q18, .ref q26, .ref q32, .int 0, .int 0, .int 0, .int (-1), .int 0, .int 0, .int 0])), (q5, .inr (2, [.ref (u9.1 0), .int 0])), (u9.1 0, .inl (u9.2 0, 300, .inl (fun _ => 0))), (q18, .inl (c18, 100, .inl (fun _ => 0))), (q26, .inl (c26, 100, .inl (fun _ => 0))), (q32, .inr (0, [.ref (u36.1 0), .ref (u36.1 1)])), (u36.1 0, .inl (u36.2 0, 18, .inl (fun _ => 0))), (u36.1 1, .inl (u36.2 1, 8, .inl (fun _ => 0)))] := hD
  refine lv_aload_n hx hb d_Reader_init_62 rfl (lv_at hl 0 rfl) ?_
  refine lv_iconst (v := 0) hx hb d_Reader_init_63 (by decide) ?_
  refine va_put (D := D) (ci := 1) (v := .int 0) (ty := .int) (C := "HeadDesk$Reader") (T := F_Reader) (N := 11) hx hb hts a_Reader t_Reader k_Reader n_Reader hown hK hP hD hS 0 rfl rfl 8 (by decide) (hts _ m_1_69) (fun _ h9 => h9) rfl (by decide +kernel) rfl rfl (Nat.le_of_ble_eq_true rfl) d_Reader_init_64 (fun H locs hP hD hS => ?_)
  have hP : va_P D vwCl [(h0, .inr (1, [.ref q5, .ref q18, .ref q26, .ref q32, .int 0, .int 0, .int 0, .int (-1), .int 0, .int 0, .int 0])), (q5, .inr (2, [.ref (u9.1 0), .int 0])), (u9.1 0, .inl (u9.2 0, 300, .inl (fun _ => 0))), (q18, .inl (c18, 100, .inl (fun _ => 0))), (q26, .inl (c26, 100, .inl (fun _ => 0))), (q32, .inr (0, [.ref (u36.1 0), .ref (u36.1 1)])), (u36.1 0, .inl (u36.2 0, 18, .inl (fun _ => 0))), (u36.1 1, .inl (u36.2 1, 8, .inl (fun _ => 0)))] H := hP
  have hD : va_D A [(h0, .inr (1, [.ref q5, .ref q18, .ref q26, .ref q32, .int 0, .int 0, .int 0, .int (-1), .int 0, .int 0, .int 0])), (q5, .inr (2, [.ref (u9.1 0), .int 0])), (u9.1 0, .inl (u9.2 0, 300, .inl (fun _ => 0))), (q18, .inl (c18, 100, .inl (fun _ => 0))), (q26, .inl (c26, 100, .inl (fun _ => 0))), (q32, .inr (0, [.ref (u36.1 0), .ref (u36.1 1)])), (u36.1 0, .inl (u36.2 0, 18, .inl (fun _ => 0))), (u36.1 1, .inl (u36.2 1, 8, .inl (fun _ => 0)))] := hD
  refine lv_aload_n hx hb d_Reader_init_67 rfl (lv_at hl 0 rfl) ?_
  refine lv_iconst (v := 0) hx hb d_Reader_init_68 (by decide) ?_
  refine va_put (D := D) (ci := 1) (v := .int 0) (ty := .int) (C := "HeadDesk$Reader") (T := F_Reader) (N := 11) hx hb hts a_Reader t_Reader k_Reader n_Reader hown hK hP hD hS 0 rfl rfl 9 (by decide) (hts _ m_1_70) (fun _ h9 => h9) rfl (by decide +kernel) rfl rfl (Nat.le_of_ble_eq_true rfl) d_Reader_init_69 (fun H locs hP hD hS => ?_)
  have hP : va_P D vwCl [(h0, .inr (1, [.ref q5, .ref q18, .ref q26, .ref q32, .int 0, .int 0, .int 0, .int (-1), .int 0, .int 0, .int 0])), (q5, .inr (2, [.ref (u9.1 0), .int 0])), (u9.1 0, .inl (u9.2 0, 300, .inl (fun _ => 0))), (q18, .inl (c18, 100, .inl (fun _ => 0))), (q26, .inl (c26, 100, .inl (fun _ => 0))), (q32, .inr (0, [.ref (u36.1 0), .ref (u36.1 1)])), (u36.1 0, .inl (u36.2 0, 18, .inl (fun _ => 0))), (u36.1 1, .inl (u36.2 1, 8, .inl (fun _ => 0)))] H := hP
  have hD : va_D A [(h0, .inr (1, [.ref q5, .ref q18, .ref q26, .ref q32, .int 0, .int 0, .int 0, .int (-1), .int 0, .int 0, .int 0])), (q5, .inr (2, [.ref (u9.1 0), .int 0])), (u9.1 0, .inl (u9.2 0, 300, .inl (fun _ => 0))), (q18, .inl (c18, 100, .inl (fun _ => 0))), (q26, .inl (c26, 100, .inl (fun _ => 0))), (q32, .inr (0, [.ref (u36.1 0), .ref (u36.1 1)])), (u36.1 0, .inl (u36.2 0, 18, .inl (fun _ => 0))), (u36.1 1, .inl (u36.2 1, 8, .inl (fun _ => 0)))] := hD
  refine lv_aload_n hx hb d_Reader_init_72 rfl (lv_at hl 0 rfl) ?_
  refine lv_iconst (v := 0) hx hb d_Reader_init_73 (by decide) ?_
  refine va_put (D := D) (ci := 1) (v := .int 0) (ty := .int) (C := "HeadDesk$Reader") (T := F_Reader) (N := 11) hx hb hts a_Reader t_Reader k_Reader n_Reader hown hK hP hD hS 0 rfl rfl 10 (by decide) (hts _ m_1_71) (fun _ h9 => h9) rfl (by decide +kernel) rfl rfl (Nat.le_of_ble_eq_true rfl) d_Reader_init_74 (fun H locs hP hD hS => ?_)
  have hP : va_P D vwCl [(h0, .inr (1, [.ref q5, .ref q18, .ref q26, .ref q32, .int 0, .int 0, .int 0, .int (-1), .int 0, .int 0, .int 0])), (q5, .inr (2, [.ref (u9.1 0), .int 0])), (u9.1 0, .inl (u9.2 0, 300, .inl (fun _ => 0))), (q18, .inl (c18, 100, .inl (fun _ => 0))), (q26, .inl (c26, 100, .inl (fun _ => 0))), (q32, .inr (0, [.ref (u36.1 0), .ref (u36.1 1)])), (u36.1 0, .inl (u36.2 0, 18, .inl (fun _ => 0))), (u36.1 1, .inl (u36.2 1, 8, .inl (fun _ => 0)))] H := hP
  have hD : va_D A [(h0, .inr (1, [.ref q5, .ref q18, .ref q26, .ref q32, .int 0, .int 0, .int 0, .int (-1), .int 0, .int 0, .int 0])), (q5, .inr (2, [.ref (u9.1 0), .int 0])), (u9.1 0, .inl (u9.2 0, 300, .inl (fun _ => 0))), (q18, .inl (c18, 100, .inl (fun _ => 0))), (q26, .inl (c26, 100, .inl (fun _ => 0))), (q32, .inr (0, [.ref (u36.1 0), .ref (u36.1 1)])), (u36.1 0, .inl (u36.2 0, 18, .inl (fun _ => 0))), (u36.1 1, .inl (u36.2 1, 8, .inl (fun _ => 0)))] := hD
  obtain ⟨u, eu⟩ : ∃ z : (Nat → Nat) × (Nat → ClassId), z = (fun k => ([q5, u9.1 0, q18, q26, q32, u36.1 0, u36.1 1] : List Nat).getD k 0, fun k => ([u9.2 0, c18, c26, u36.2 0, u36.2 1] : List ClassId).getD k (u9.2 0)) := ⟨_, rfl⟩
  have hP9 : va_P D vwCl [(h0, .inr (1, [.ref (u.1 0), .ref (u.1 2), .ref (u.1 3), .ref (u.1 4), .int 0, .int 0, .int 0, .int (-1), .int 0, .int 0, .int 0])), (u.1 0, .inr (2, [.ref (u.1 1), .int 0])), (u.1 1, .inl (u.2 0, 300, .inl (fun _ => 0))), (u.1 2, .inl (u.2 1, 100, .inl (fun _ => 0))), (u.1 3, .inl (u.2 2, 100, .inl (fun _ => 0))), (u.1 4, .inr (0, [.ref (u.1 5), .ref (u.1 6)])), (u.1 5, .inl (u.2 3, 18, .inl (fun _ => 0))), (u.1 6, .inl (u.2 4, 8, .inl (fun _ => 0)))] H := by rw [eu]; exact hP.sub [0, 1, 2, 3, 4, 5, 6, 7] rfl
  have hD9 : va_D A [(h0, .inr (1, [.ref (u.1 0), .ref (u.1 2), .ref (u.1 3), .ref (u.1 4), .int 0, .int 0, .int 0, .int (-1), .int 0, .int 0, .int 0])), (u.1 0, .inr (2, [.ref (u.1 1), .int 0])), (u.1 1, .inl (u.2 0, 300, .inl (fun _ => 0))), (u.1 2, .inl (u.2 1, 100, .inl (fun _ => 0))), (u.1 3, .inl (u.2 2, 100, .inl (fun _ => 0))), (u.1 4, .inr (0, [.ref (u.1 5), .ref (u.1 6)])), (u.1 5, .inl (u.2 3, 18, .inl (fun _ => 0))), (u.1 6, .inl (u.2 4, 8, .inl (fun _ => 0)))] := by rw [eu]; exact hD.sub [0, 1, 2, 3, 4, 5, 6, 7] (by decide) rfl
  have hK9 : va_K D vwCl [(u.2 0, .char), (u.2 1, .int), (u.2 2, .int), (u.2 3, .int), (u.2 4, .int)] s := by rw [eu]; exact hK.sub [0, 1, 2, 3, 4] rfl
  refine W.widen (k := 7) (n := 530) (Nat.le_of_ble_eq_true rfl) (Nat.le_of_ble_eq_true rfl) ?_
  exact W.vret hx hb hr (fun t ht hW => ⟨⟨u, rfl, trivial, by rw [ht]; exact hP9, va_K.moved hW.alike hK9, hD9⟩, hS.F ht⟩) hS.2.2 d_Reader_init_77
set_option maxHeartbeats 4000000 in
set_option maxRecDepth 100000 in
theorem c_Desk_init (h0 : Nat) (sz : Nat) : Met l y_Desk_init w_Desk_init (rmC 4 11 569) (hx_PcN D [] adK adV tF [(h0, .inr (3, [.null, .null, .null, .int 0, .int 0]))] [.ref h0] sz) (va_Qv (fun _ : (Nat → Nat) × (Nat → ClassId) => True) (fun u t => u.1 8 = h0 ∧ va_P D vwCl (dkW u.1 u.2 d_0) t.heap ∧ va_K D vwCl (tyH u.2) t ∧ va_D (va_A [(h0, .inr (3, [.null, .null, .null, .int 0, .int 0]))] sz) (dkW u.1 u.2 d_0)) (va_A [(h0, .inr (3, [.null, .null, .null, .int 0, .int 0]))] sz)) 11 569 (va_A [(h0, .inr (3, [.null, .null, .null, .int 0, .int 0]))] sz) := by
  refine Met.ofW (cc := b_Desk_init) (maxL := 1) (ret := none) (by decide) rfl ?_
  intro p e s m args below meth c s₁ B hml hv
  obtain ⟨rfl, hsz, hP, hX, hD0, hN⟩ := hv
  have hx := B.exec
  have hb := B.bytes
  have hr := B.returns
  have hts := atoms_spec (ws := w_Desk_init) B.pre
  have hts : ∀ w ∈ aw, w.before ([.ref h0] : List Value).toArray s = true := fun w h => hts w (List.mem_cons_of_mem _ h)
  have hown : s.vm.findClass "HeadDesk" = some m.cls := findClass_of_methodNamed B.named
  have hlocks := B.notSynchronized
  have hin := (name_of_methodNamed B.named B.method).1
  subst hsz
  have hD := hD0.self (sz := s.heap.size)
  generalize hAe : va_A [(h0, .inr (3, [.null, .null, .null, .int 0, .int 0]))] s.heap.size = A at hX hD ⊢
  have hA : ∀ q : Nat, s.heap.size ≤ q → A q := fun q h => by rw [← hAe]; exact Or.inr h
  have hS : va_S A s.heap s.heap [] := va_S.rf
  have hP : va_P D vwCl [(h0, .inr (3, [.null, .null, .null, .int 0, .int 0]))] s.heap := hP
  have hD : va_D A [(h0, .inr (3, [.null, .null, .null, .int 0, .int 0]))] := hD
  have hK := hX.1
  have hl := lv_entry ([.ref h0]) (n := 1) (Nat.le_of_ble_eq_true rfl)
  rw [lg_entry_eq]
  generalize (lg_sl ([.ref h0]) ++ List.replicate (1 - (lg_sl ([.ref h0])).length) Slot.unset).toArray = ls at hl ⊢
  have hl : lv_has ls 1 [(0, .ref h0)] := hl
  refine lv_aload_n hx hb d_Desk_init_0 rfl (lv_at hl 0 rfl) ?_
  refine W.objInit hx hb hown (hts _ m_1_21) (hts _ m_1_22) (hts _ m_1_23) rfl (by rw [hml]; exact hl.1) rfl d_Desk_init_1 (Nat.le_of_ble_eq_true rfl) (Nat.le_of_ble_eq_true rfl) ?_
  refine W.eq (g2 := F0 m 4 ls []) rfl ?_
  refine lv_aload_n hx hb d_Desk_init_4 rfl (lv_at hl 0 rfl) ?_
  refine va_new (ci := 1) (fs := [.null, .null, .null, .null, .int 0, .int 0, .int 0, .int 0, .int 0, .int 0, .int 0]) (C := "HeadDesk$Reader") (T := F_Reader) (N := 11) hx hb hts a_Reader t_Reader k_Reader hown (hts _ m_1_24) (hts _ m_1_25) (hts _ m_1_2) hK hP hD hS hA rfl (by decide +kernel) (Nat.le_of_ble_eq_true rfl) (Nat.le_of_ble_eq_true rfl) d_Desk_init_5 (fun q5 H hP hD hS => ?_)
  have hP : va_P D vwCl [(h0, .inr (3, [.null, .null, .null, .int 0, .int 0])), (q5, .inr (1, [.null, .null, .null, .null, .int 0, .int 0, .int 0, .int 0, .int 0, .int 0, .int 0]))] H := hP
  have hD : va_D A [(h0, .inr (3, [.null, .null, .null, .int 0, .int 0])), (q5, .inr (1, [.null, .null, .null, .null, .int 0, .int 0, .int 0, .int 0, .int 0, .int 0, .int 0]))] := hD
  refine lv_dup hx hb d_Desk_init_8 rfl ?_
  have hFc := va_free (wc := [(q5, .inr (1, [.null, .null, .null, .null, .int 0, .int 0, .int 0, .int 0, .int 0, .int 0, .int 0]))]) hD hS hA [1] rfl
  have hpc := hx_preN ⟨va_K.sub (tys' := []) hK [] rfl, hX.2⟩ hN hA hP hD hS [1] (wc := [(q5, .inr (1, [.null, .null, .null, .null, .int 0, .int 0, .int 0, .int 0, .int 0, .int 0, .int 0]))]) rfl (by decide) [.ref q5]
  refine va_callv (va_runIN (As := []) (rest := [.ref q5, .ref h0]) ⟨hx, hb, hml, hown, hts⟩ (c_Reader_init q5 H.size) ⟨va_cnB 0 hts (fun w h => ⟨(List.mem_cons.mp h).elim (fun e => by rw [e]; exact m_1_28) id, aw_good ((List.mem_cons.mp h).elim (fun e => by rw [e]; exact m_1_28) id)⟩) rfl rfl rfl hN.2.2.2.2.1 (hts _ m_1_2) (by decide +kernel) ⟨Nat.le_of_ble_eq_true rfl, Nat.le_of_ble_eq_true rfl⟩, rfl, hts _ m_1_27⟩ hpc rfl rfl hl.1 rfl (lv_room (Nat.le_of_ble_eq_true rfl)) d_Desk_init_9 ⟨Nat.le_of_ble_eq_true rfl, Nat.le_of_ble_eq_true rfl⟩) hS (fun q _ h => hFc q h) hFc (fun u9 t H1 locs ht hvm hw hB hz1 hk1 hS => ?_)
  obtain ⟨hP1, hK1, hD1⟩ := hB
  rw [ht] at hP1
  have hK1 := va_K.moved hvm.symm hK1
  obtain ⟨hP, hD⟩ := va_join (wr := [(h0, .inr (3, [.null, .null, .null, .int 0, .int 0]))]) (w1 := [(q5, .inr (1, [.ref (u9.1 0), .ref (u9.1 2), .ref (u9.1 3), .ref (u9.1 4), .int 0, .int 0, .int 0, .int (-1), .int 0, .int 0, .int 0])), (u9.1 0, .inr (2, [.ref (u9.1 1), .int 0])), (u9.1 1, .inl (u9.2 0, 300, .inl (fun _ => 0))), (u9.1 2, .inl (u9.2 1, 100, .inl (fun _ => 0))), (u9.1 3, .inl (u9.2 2, 100, .inl (fun _ => 0))), (u9.1 4, .inr (0, [.ref (u9.1 5), .ref (u9.1 6)])), (u9.1 5, .inl (u9.2 3, 18, .inl (fun _ => 0))), (u9.1 6, .inl (u9.2 4, 8, .inl (fun _ => 0)))]) hP hD [1] [0] rfl rfl (by decide) (by decide) hk1 hFc hP1 hD1
  have hK := hK.app hK1
  generalize H1 = H at hP hS ⊢
  have hP : va_P D vwCl [(h0, .inr (3, [.null, .null, .null, .int 0, .int 0])), (q5, .inr (1, [.ref (u9.1 0), .ref (u9.1 2), .ref (u9.1 3), .ref (u9.1 4), .int 0, .int 0, .int 0, .int (-1), .int 0, .int 0, .int 0])), (u9.1 0, .inr (2, [.ref (u9.1 1), .int 0])), (u9.1 1, .inl (u9.2 0, 300, .inl (fun _ => 0))), (u9.1 2, .inl (u9.2 1, 100, .inl (fun _ => 0))), (u9.1 3, .inl (u9.2 2, 100, .inl (fun _ => 0))), (u9.1 4, .inr (0, [.ref (u9.1 5), .ref (u9.1 6)])), (u9.1 5, .inl (u9.2 3, 18, .inl (fun _ => 0))), (u9.1 6, .inl (u9.2 4, 8, .inl (fun _ => 0)))] H := hP
  have hD : va_D A [(h0, .inr (3, [.null, .null, .null, .int 0, .int 0])), (q5, .inr (1, [.ref (u9.1 0), .ref (u9.1 2), .ref (u9.1 3), .ref (u9.1 4), .int 0, .int 0, .int 0, .int (-1), .int 0, .int 0, .int 0])), (u9.1 0, .inr (2, [.ref (u9.1 1), .int 0])), (u9.1 1, .inl (u9.2 0, 300, .inl (fun _ => 0))), (u9.1 2, .inl (u9.2 1, 100, .inl (fun _ => 0))), (u9.1 3, .inl (u9.2 2, 100, .inl (fun _ => 0))), (u9.1 4, .inr (0, [.ref (u9.1 5), .ref (u9.1 6)])), (u9.1 5, .inl (u9.2 3, 18, .inl (fun _ => 0))), (u9.1 6, .inl (u9.2 4, 8, .inl (fun _ => 0)))] := hD
  have hK : va_K D vwCl [(u9.2 0, .char), (u9.2 1, .int), (u9.2 2, .int), (u9.2 3, .int), (u9.2 4, .int)] s := hK
  refine va_putF (D := D) (ci := 3) (v := .ref q5) (ty := (.object "HeadDesk$Reader")) (C := "HeadDesk") (T := F_Desk) (N := 5) hx hb hts a_Desk t_Desk k_Desk n_Desk hown hK hP hD hS 0 rfl rfl 0 (by decide) (hts _ m_1_97) (fun _ h9 => h9) rfl hin rfl (by decide +kernel) rfl rfl (Nat.le_of_ble_eq_true rfl) d_Desk_init_12 (fun H locs hP hD hS => ?_)
  have hP : va_P D vwCl [(h0, .inr (3, [.ref q5, .null, .null, .int 0, .int 0])), (q5, .inr (1, [.ref (u9.1 0), .ref (u9.1 2), .ref (u9.1 3), .ref (u9.1 4), .int 0, .int 0, .int 0, .int (-1), .int 0, .int 0, .int 0])), (u9.1 0, .inr (2, [.ref (u9.1 1), .int 0])), (u9.1 1, .inl (u9.2 0, 300, .inl (fun _ => 0))), (u9.1 2, .inl (u9.2 1, 100, .inl (fun _ => 0))), (u9.1 3, .inl (u9.2 2, 100, .inl (fun _ => 0))), (u9.1 4, .inr (0, [.ref (u9.1 5), .ref (u9.1 6)])), (u9.1 5, .inl (u9.2 3, 18, .inl (fun _ => 0))), (u9.1 6, .inl (u9.2 4, 8, .inl (fun _ => 0)))] H := hP
  have hD : va_D A [(h0, .inr (3, [.ref q5, .null, .null, .int 0, .int 0])), (q5, .inr (1, [.ref (u9.1 0), .ref (u9.1 2), .ref (u9.1 3), .ref (u9.1 4), .int 0, .int 0, .int 0, .int (-1), .int 0, .int 0, .int 0])), (u9.1 0, .inr (2, [.ref (u9.1 1), .int 0])), (u9.1 1, .inl (u9.2 0, 300, .inl (fun _ => 0))), (u9.1 2, .inl (u9.2 1, 100, .inl (fun _ => 0))), (u9.1 3, .inl (u9.2 2, 100, .inl (fun _ => 0))), (u9.1 4, .inr (0, [.ref (u9.1 5), .ref (u9.1 6)])), (u9.1 5, .inl (u9.2 3, 18, .inl (fun _ => 0))), (u9.1 6, .inl (u9.2 4, 8, .inl (fun _ => 0)))] := hD
  refine lv_aload_n hx hb d_Desk_init_15 rfl (lv_at hl 0 rfl) ?_
  refine lv_aload_n hx hb d_Desk_init_16 rfl (lv_at hl 0 rfl) ?_
  refine va_get (D := D) (ci := 3) (v := .ref q5) (C := "HeadDesk") (T := F_Desk) (N := 5) hx hb hts a_Desk hown hK hP 0 rfl rfl 0 (by decide) (hts _ m_1_97) (fun _ h9 => h9) rfl d_Desk_init_17 ?_
  refine va_get (D := D) (ci := 1) (v := .ref (u9.1 0)) (C := "HeadDesk$Reader") (T := F_Reader) (N := 11) hx hb hts a_Reader hown hK hP 1 rfl rfl 0 (by decide) (hts _ m_1_61) (fun _ h9 => h9) rfl d_Desk_init_20 ?_
  refine va_putF (D := D) (ci := 3) (v := .ref (u9.1 0)) (ty := (.object "HeadDesk$Tape")) (C := "HeadDesk") (T := F_Desk) (N := 5) hx hb hts a_Desk t_Desk k_Desk n_Desk hown hK hP hD hS 0 rfl rfl 1 (by decide) (hts _ m_1_98) (fun _ h9 => h9) rfl hin rfl (by decide +kernel) rfl rfl (Nat.le_of_ble_eq_true rfl) d_Desk_init_23 (fun H locs hP hD hS => ?_)
  have hP : va_P D vwCl [(h0, .inr (3, [.ref q5, .ref (u9.1 0), .null, .int 0, .int 0])), (q5, .inr (1, [.ref (u9.1 0), .ref (u9.1 2), .ref (u9.1 3), .ref (u9.1 4), .int 0, .int 0, .int 0, .int (-1), .int 0, .int 0, .int 0])), (u9.1 0, .inr (2, [.ref (u9.1 1), .int 0])), (u9.1 1, .inl (u9.2 0, 300, .inl (fun _ => 0))), (u9.1 2, .inl (u9.2 1, 100, .inl (fun _ => 0))), (u9.1 3, .inl (u9.2 2, 100, .inl (fun _ => 0))), (u9.1 4, .inr (0, [.ref (u9.1 5), .ref (u9.1 6)])), (u9.1 5, .inl (u9.2 3, 18, .inl (fun _ => 0))), (u9.1 6, .inl (u9.2 4, 8, .inl (fun _ => 0)))] H := hP
  have hD : va_D A [(h0, .inr (3, [.ref q5, .ref (u9.1 0), .null, .int 0, .int 0])), (q5, .inr (1, [.ref (u9.1 0), .ref (u9.1 2), .ref (u9.1 3), .ref (u9.1 4), .int 0, .int 0, .int 0, .int (-1), .int 0, .int 0, .int 0])), (u9.1 0, .inr (2, [.ref (u9.1 1), .int 0])), (u9.1 1, .inl (u9.2 0, 300, .inl (fun _ => 0))), (u9.1 2, .inl (u9.2 1, 100, .inl (fun _ => 0))), (u9.1 3, .inl (u9.2 2, 100, .inl (fun _ => 0))), (u9.1 4, .inr (0, [.ref (u9.1 5), .ref (u9.1 6)])), (u9.1 5, .inl (u9.2 3, 18, .inl (fun _ => 0))), (u9.1 6, .inl (u9.2 4, 8, .inl (fun _ => 0)))] := hD
  refine lv_aload_n hx hb d_Desk_init_26 rfl (lv_at hl 0 rfl) ?_
  refine va_new (ci := 0) (fs := [.null, .null]) (C := "HeadDesk$Head") (T := F_Head) (N := 2) hx hb hts a_Head t_Head k_Head hown (hts _ m_1_95) (hts _ m_1_45) (hts _ m_1_4) hK hP hD hS hA rfl (by decide +kernel) (Nat.le_of_ble_eq_true rfl) (Nat.le_of_ble_eq_true rfl) d_Desk_init_27 (fun q27 H hP hD hS => ?_)
  have hP : va_P D vwCl [(h0, .inr (3, [.ref q5, .ref (u9.1 0), .null, .int 0, .int 0])), (q5, .inr (1, [.ref (u9.1 0), .ref (u9.1 2), .ref (u9.1 3), .ref (u9.1 4), .int 0, .int 0, .int 0, .int (-1), .int 0, .int 0, .int 0])), (u9.1 0, .inr (2, [.ref (u9.1 1), .int 0])), (u9.1 1, .inl (u9.2 0, 300, .inl (fun _ => 0))), (u9.1 2, .inl (u9.2 1, 100, .inl (fun _ => 0))), (u9.1 3, .inl (u9.2 2, 100, .inl (fun _ => 0))), (u9.1 4, .inr (0, [.ref (u9.1 5), .ref (u9.1 6)])), (u9.1 5, .inl (u9.2 3, 18, .inl (fun _ => 0))), (u9.1 6, .inl (u9.2 4, 8, .inl (fun _ => 0))), (q27, .inr (0, [.null, .null]))] H := hP
  have hD : va_D A [(h0, .inr (3, [.ref q5, .ref (u9.1 0), .null, .int 0, .int 0])), (q5, .inr (1, [.ref (u9.1 0), .ref (u9.1 2), .ref (u9.1 3), .ref (u9.1 4), .int 0, .int 0, .int 0, .int (-1), .int 0, .int 0, .int 0])), (u9.1 0, .inr (2, [.ref (u9.1 1), .int 0])), (u9.1 1, .inl (u9.2 0, 300, .inl (fun _ => 0))), (u9.1 2, .inl (u9.2 1, 100, .inl (fun _ => 0))), (u9.1 3, .inl (u9.2 2, 100, .inl (fun _ => 0))), (u9.1 4, .inr (0, [.ref (u9.1 5), .ref (u9.1 6)])), (u9.1 5, .inl (u9.2 3, 18, .inl (fun _ => 0))), (u9.1 6, .inl (u9.2 4, 8, .inl (fun _ => 0))), (q27, .inr (0, [.null, .null]))] := hD
  refine lv_dup hx hb d_Desk_init_30 rfl ?_
  have hFc := va_free (wc := [(q27, .inr (0, [.null, .null]))]) hD hS hA [9] rfl
  have hpc := hx_preN ⟨va_K.sub (tys' := []) hK [] rfl, hX.2⟩ hN hA hP hD hS [9] (wc := [(q27, .inr (0, [.null, .null]))]) rfl (by decide) [.ref q27]
  refine va_callv (va_runIN (As := []) (rest := [.ref q27, .ref h0]) ⟨hx, hb, hml, hown, hts⟩ (c_Head_init q27 H.size) ⟨va_cnB 0 hts (fun w h => ⟨(List.mem_cons.mp h).elim (fun e => by rw [e]; exact m_1_48) id, aw_good ((List.mem_cons.mp h).elim (fun e => by rw [e]; exact m_1_48) id)⟩) rfl rfl rfl hN.2.2.2.2.2.2.2 (hts _ m_1_4) (by decide +kernel) ⟨Nat.le_of_ble_eq_true rfl, Nat.le_of_ble_eq_true rfl⟩, rfl, hts _ m_1_47⟩ hpc rfl rfl hl.1 rfl (lv_room (Nat.le_of_ble_eq_true rfl)) d_Desk_init_31 ⟨Nat.le_of_ble_eq_true rfl, Nat.le_of_ble_eq_true rfl⟩) hS (fun q _ h => hFc q h) hFc (fun u31 t H1 locs ht hvm hw hB hz1 hk1 hS => ?_)
  obtain ⟨hP1, hK1, hD1⟩ := hB
  rw [ht] at hP1
  have hK1 := va_K.moved hvm.symm hK1
  obtain ⟨hP, hD⟩ := va_join (wr := [(h0, .inr (3, [.ref q5, .ref (u9.1 0), .null, .int 0, .int 0])), (q5, .inr (1, [.ref (u9.1 0), .ref (u9.1 2), .ref (u9.1 3), .ref (u9.1 4), .int 0, .int 0, .int 0, .int (-1), .int 0, .int 0, .int 0])), (u9.1 0, .inr (2, [.ref (u9.1 1), .int 0])), (u9.1 1, .inl (u9.2 0, 300, .inl (fun _ => 0))), (u9.1 2, .inl (u9.2 1, 100, .inl (fun _ => 0))), (u9.1 3, .inl (u9.2 2, 100, .inl (fun _ => 0))), (u9.1 4, .inr (0, [.ref (u9.1 5), .ref (u9.1 6)])), (u9.1 5, .inl (u9.2 3, 18, .inl (fun _ => 0))), (u9.1 6, .inl (u9.2 4, 8, .inl (fun _ => 0)))]) (w1 := [(q27, .inr (0, [.ref (u31.1 0), .ref (u31.1 1)])), (u31.1 0, .inl (u31.2 0, 18, .inl (fun _ => 0))), (u31.1 1, .inl (u31.2 1, 8, .inl (fun _ => 0)))]) hP hD [9] [0, 1, 2, 3, 4, 5, 6, 7, 8] rfl rfl (by decide) (by decide) hk1 hFc hP1 hD1
  have hK := hK.app hK1
  generalize H1 = H at hP hS ⊢
  have hP : va_P D vwCl [(h0, .inr (3, [.ref q5, .ref (u9.1 0), .null, .int 0, .int 0])), (q5, .inr (1, [.ref (u9.1 0), .ref (u9.1 2), .ref (u9.1 3), .ref (u9.1 4), .int 0, .int 0, .int 0, .int (-1), .int 0, .int 0, .int 0])), (u9.1 0, .inr (2, [.ref (u9.1 1), .int 0])), (u9.1 1, .inl (u9.2 0, 300, .inl (fun _ => 0))), (u9.1 2, .inl (u9.2 1, 100, .inl (fun _ => 0))), (u9.1 3, .inl (u9.2 2, 100, .inl (fun _ => 0))), (u9.1 4, .inr (0, [.ref (u9.1 5), .ref (u9.1 6)])), (u9.1 5, .inl (u9.2 3, 18, .inl (fun _ => 0))), (u9.1 6, .inl (u9.2 4, 8, .inl (fun _ => 0))), (q27, .inr (0, [.ref (u31.1 0), .ref (u31.1 1)])), (u31.1 0, .inl (u31.2 0, 18, .inl (fun _ => 0))), (u31.1 1, .inl (u31.2 1, 8, .inl (fun _ => 0)))] H := hP
  have hD : va_D A [(h0, .inr (3, [.ref q5, .ref (u9.1 0), .null, .int 0, .int 0])), (q5, .inr (1, [.ref (u9.1 0), .ref (u9.1 2), .ref (u9.1 3), .ref (u9.1 4), .int 0, .int 0, .int 0, .int (-1), .int 0, .int 0, .int 0])), (u9.1 0, .inr (2, [.ref (u9.1 1), .int 0])), (u9.1 1, .inl (u9.2 0, 300, .inl (fun _ => 0))), (u9.1 2, .inl (u9.2 1, 100, .inl (fun _ => 0))), (u9.1 3, .inl (u9.2 2, 100, .inl (fun _ => 0))), (u9.1 4, .inr (0, [.ref (u9.1 5), .ref (u9.1 6)])), (u9.1 5, .inl (u9.2 3, 18, .inl (fun _ => 0))), (u9.1 6, .inl (u9.2 4, 8, .inl (fun _ => 0))), (q27, .inr (0, [.ref (u31.1 0), .ref (u31.1 1)])), (u31.1 0, .inl (u31.2 0, 18, .inl (fun _ => 0))), (u31.1 1, .inl (u31.2 1, 8, .inl (fun _ => 0)))] := hD
  have hK : va_K D vwCl [(u9.2 0, .char), (u9.2 1, .int), (u9.2 2, .int), (u9.2 3, .int), (u9.2 4, .int), (u31.2 0, .int), (u31.2 1, .int)] s := hK
  refine va_put (D := D) (ci := 3) (v := .ref q27) (ty := (.object "HeadDesk$Head")) (C := "HeadDesk") (T := F_Desk) (N := 5) hx hb hts a_Desk t_Desk k_Desk n_Desk hown hK hP hD hS 0 rfl rfl 2 (by decide) (hts _ m_1_99) (fun _ h9 => h9) rfl (by decide +kernel) rfl rfl (Nat.le_of_ble_eq_true rfl) d_Desk_init_34 (fun H locs hP hD hS => ?_)
  have hP : va_P D vwCl [(h0, .inr (3, [.ref q5, .ref (u9.1 0), .ref q27, .int 0, .int 0])), (q5, .inr (1, [.ref (u9.1 0), .ref (u9.1 2), .ref (u9.1 3), .ref (u9.1 4), .int 0, .int 0, .int 0, .int (-1), .int 0, .int 0, .int 0])), (u9.1 0, .inr (2, [.ref (u9.1 1), .int 0])), (u9.1 1, .inl (u9.2 0, 300, .inl (fun _ => 0))), (u9.1 2, .inl (u9.2 1, 100, .inl (fun _ => 0))), (u9.1 3, .inl (u9.2 2, 100, .inl (fun _ => 0))), (u9.1 4, .inr (0, [.ref (u9.1 5), .ref (u9.1 6)])), (u9.1 5, .inl (u9.2 3, 18, .inl (fun _ => 0))), (u9.1 6, .inl (u9.2 4, 8, .inl (fun _ => 0))), (q27, .inr (0, [.ref (u31.1 0), .ref (u31.1 1)])), (u31.1 0, .inl (u31.2 0, 18, .inl (fun _ => 0))), (u31.1 1, .inl (u31.2 1, 8, .inl (fun _ => 0)))] H := hP
  have hD : va_D A [(h0, .inr (3, [.ref q5, .ref (u9.1 0), .ref q27, .int 0, .int 0])), (q5, .inr (1, [.ref (u9.1 0), .ref (u9.1 2), .ref (u9.1 3), .ref (u9.1 4), .int 0, .int 0, .int 0, .int (-1), .int 0, .int 0, .int 0])), (u9.1 0, .inr (2, [.ref (u9.1 1), .int 0])), (u9.1 1, .inl (u9.2 0, 300, .inl (fun _ => 0))), (u9.1 2, .inl (u9.2 1, 100, .inl (fun _ => 0))), (u9.1 3, .inl (u9.2 2, 100, .inl (fun _ => 0))), (u9.1 4, .inr (0, [.ref (u9.1 5), .ref (u9.1 6)])), (u9.1 5, .inl (u9.2 3, 18, .inl (fun _ => 0))), (u9.1 6, .inl (u9.2 4, 8, .inl (fun _ => 0))), (q27, .inr (0, [.ref (u31.1 0), .ref (u31.1 1)])), (u31.1 0, .inl (u31.2 0, 18, .inl (fun _ => 0))), (u31.1 1, .inl (u31.2 1, 8, .inl (fun _ => 0)))] := hD
  refine lv_aload_n hx hb d_Desk_init_37 rfl (lv_at hl 0 rfl) ?_
  refine lv_iconst (v := 0) hx hb d_Desk_init_38 (by decide) ?_
  refine va_put (D := D) (ci := 3) (v := .int 0) (ty := .int) (C := "HeadDesk") (T := F_Desk) (N := 5) hx hb hts a_Desk t_Desk k_Desk n_Desk hown hK hP hD hS 0 rfl rfl 3 (by decide) (hts _ m_1_100) (fun _ h9 => h9) rfl (by decide +kernel) rfl rfl (Nat.le_of_ble_eq_true rfl) d_Desk_init_39 (fun H locs hP hD hS => ?_)
  have hP : va_P D vwCl [(h0, .inr (3, [.ref q5, .ref (u9.1 0), .ref q27, .int 0, .int 0])), (q5, .inr (1, [.ref (u9.1 0), .ref (u9.1 2), .ref (u9.1 3), .ref (u9.1 4), .int 0, .int 0, .int 0, .int (-1), .int 0, .int 0, .int 0])), (u9.1 0, .inr (2, [.ref (u9.1 1), .int 0])), (u9.1 1, .inl (u9.2 0, 300, .inl (fun _ => 0))), (u9.1 2, .inl (u9.2 1, 100, .inl (fun _ => 0))), (u9.1 3, .inl (u9.2 2, 100, .inl (fun _ => 0))), (u9.1 4, .inr (0, [.ref (u9.1 5), .ref (u9.1 6)])), (u9.1 5, .inl (u9.2 3, 18, .inl (fun _ => 0))), (u9.1 6, .inl (u9.2 4, 8, .inl (fun _ => 0))), (q27, .inr (0, [.ref (u31.1 0), .ref (u31.1 1)])), (u31.1 0, .inl (u31.2 0, 18, .inl (fun _ => 0))), (u31.1 1, .inl (u31.2 1, 8, .inl (fun _ => 0)))] H := hP
  have hD : va_D A [(h0, .inr (3, [.ref q5, .ref (u9.1 0), .ref q27, .int 0, .int 0])), (q5, .inr (1, [.ref (u9.1 0), .ref (u9.1 2), .ref (u9.1 3), .ref (u9.1 4), .int 0, .int 0, .int 0, .int (-1), .int 0, .int 0, .int 0])), (u9.1 0, .inr (2, [.ref (u9.1 1), .int 0])), (u9.1 1, .inl (u9.2 0, 300, .inl (fun _ => 0))), (u9.1 2, .inl (u9.2 1, 100, .inl (fun _ => 0))), (u9.1 3, .inl (u9.2 2, 100, .inl (fun _ => 0))), (u9.1 4, .inr (0, [.ref (u9.1 5), .ref (u9.1 6)])), (u9.1 5, .inl (u9.2 3, 18, .inl (fun _ => 0))), (u9.1 6, .inl (u9.2 4, 8, .inl (fun _ => 0))), (q27, .inr (0, [.ref (u31.1 0), .ref (u31.1 1)])), (u31.1 0, .inl (u31.2 0, 18, .inl (fun _ => 0))), (u31.1 1, .inl (u31.2 1, 8, .inl (fun _ => 0)))] := hD
  refine lv_aload_n hx hb d_Desk_init_42 rfl (lv_at hl 0 rfl) ?_
  refine lv_iconst (v := (-1)) hx hb d_Desk_init_43 (by decide) ?_
  refine va_put (D := D) (ci := 3) (v := .int (-1)) (ty := .int) (C := "HeadDesk") (T := F_Desk) (N := 5) hx hb hts a_Desk t_Desk k_Desk n_Desk hown hK hP hD hS 0 rfl rfl 4 (by decide) (hts _ m_1_101) (fun _ h9 => h9) rfl (by decide +kernel) rfl rfl (Nat.le_of_ble_eq_true rfl) d_Desk_init_44 (fun H locs hP hD hS => ?_)
  have hP : va_P D vwCl [(h0, .inr (3, [.ref q5, .ref (u9.1 0), .ref q27, .int 0, .int (-1)])), (q5, .inr (1, [.ref (u9.1 0), .ref (u9.1 2), .ref (u9.1 3), .ref (u9.1 4), .int 0, .int 0, .int 0, .int (-1), .int 0, .int 0, .int 0])), (u9.1 0, .inr (2, [.ref (u9.1 1), .int 0])), (u9.1 1, .inl (u9.2 0, 300, .inl (fun _ => 0))), (u9.1 2, .inl (u9.2 1, 100, .inl (fun _ => 0))), (u9.1 3, .inl (u9.2 2, 100, .inl (fun _ => 0))), (u9.1 4, .inr (0, [.ref (u9.1 5), .ref (u9.1 6)])), (u9.1 5, .inl (u9.2 3, 18, .inl (fun _ => 0))), (u9.1 6, .inl (u9.2 4, 8, .inl (fun _ => 0))), (q27, .inr (0, [.ref (u31.1 0), .ref (u31.1 1)])), (u31.1 0, .inl (u31.2 0, 18, .inl (fun _ => 0))), (u31.1 1, .inl (u31.2 1, 8, .inl (fun _ => 0)))] H := hP
  have hD : va_D A [(h0, .inr (3, [.ref q5, .ref (u9.1 0), .ref q27, .int 0, .int (-1)])), (q5, .inr (1, [.ref (u9.1 0), .ref (u9.1 2), .ref (u9.1 3), .ref (u9.1 4), .int 0, .int 0, .int 0, .int (-1), .int 0, .int 0, .int 0])), (u9.1 0, .inr (2, [.ref (u9.1 1), .int 0])), (u9.1 1, .inl (u9.2 0, 300, .inl (fun _ => 0))), (u9.1 2, .inl (u9.2 1, 100, .inl (fun _ => 0))), (u9.1 3, .inl (u9.2 2, 100, .inl (fun _ => 0))), (u9.1 4, .inr (0, [.ref (u9.1 5), .ref (u9.1 6)])), (u9.1 5, .inl (u9.2 3, 18, .inl (fun _ => 0))), (u9.1 6, .inl (u9.2 4, 8, .inl (fun _ => 0))), (q27, .inr (0, [.ref (u31.1 0), .ref (u31.1 1)])), (u31.1 0, .inl (u31.2 0, 18, .inl (fun _ => 0))), (u31.1 1, .inl (u31.2 1, 8, .inl (fun _ => 0)))] := hD
  obtain ⟨u, eu⟩ : ∃ z : (Nat → Nat) × (Nat → ClassId), z = (fun k => ([q5, u9.1 0, u9.1 1, u9.1 2, u9.1 3, u9.1 4, u9.1 5, u9.1 6, h0, q27, u31.1 0, u31.1 1] : List Nat).getD k 0, fun k => ([u9.2 0, u9.2 1, u9.2 2, u9.2 3, u9.2 4, u31.2 0, u31.2 1] : List ClassId).getD k (u9.2 0)) := ⟨_, rfl⟩
  have hP9 : va_P D vwCl (dkW u.1 u.2 d_0) H := by rw [eu]; exact hP.sub [0, 1, 2, 3, 4, 5, 6, 7, 8, 9, 10, 11] rfl
  have hD9 : va_D A (dkW u.1 u.2 d_0) := by rw [eu]; exact hD.sub [0, 1, 2, 3, 4, 5, 6, 7, 8, 9, 10, 11] (by decide) rfl
  have hK9 : va_K D vwCl (tyH u.2) s := by rw [eu]; exact hK.sub [0, 1, 2, 3, 4, 5, 6] rfl
  refine W.widen (k := 11) (n := 569) (Nat.le_of_ble_eq_true rfl) (Nat.le_of_ble_eq_true rfl) ?_
  exact W.vret hx hb hr (fun t ht hW => ⟨⟨u, rfl, trivial, by rw [eu]; rfl, by rw [ht]; exact hP9, va_K.moved hW.alike hK9, hD9⟩, hS.F ht⟩) hS.2.2 d_Desk_init_47
set_option maxHeartbeats 4000000 in
set_option maxRecDepth 100000 in
theorem c_Mod_init (h0 : Nat) (sz : Nat) : Met l y_Mod_init w_Mod_init (rmC 2 6 634) (hx_PcN D [] adK adV tF [(h0, .inr (4, [.int 0, .null, .int 0, .int 0, .int 0, .int 0, .int 0, .int 0, .int 0, .int 0, .int 0, .int 0, .int 0, .int 0, .int 0, .int 0, .int 0, .int 0, .int 0, .int 0, .null, .int 0, .int 0, .int 0, .int 0, .int 0, .int 0, .int 0, .int 0, .null, .null, .null, .null, .int 0, .int 0, .int 0, .int 0, .int 0]))] [.ref h0] sz) (va_Qv (fun _ : (Nat → Nat) × (Nat → ClassId) => True) (fun u t => u.1 0 = h0 ∧ va_P D vwCl (mdW u.1 u.2 s_0) t.heap ∧ va_K D vwCl (tyM u.2) t ∧ va_D (va_A [(h0, .inr (4, [.int 0, .null, .int 0, .int 0, .int 0, .int 0, .int 0, .int 0, .int 0, .int 0, .int 0, .int 0, .int 0, .int 0, .int 0, .int 0, .int 0, .int 0, .int 0, .int 0, .null, .int 0, .int 0, .int 0, .int 0, .int 0, .int 0, .int 0, .int 0, .null, .null, .null, .null, .int 0, .int 0, .int 0, .int 0, .int 0]))] sz) (mdW u.1 u.2 s_0)) (va_A [(h0, .inr (4, [.int 0, .null, .int 0, .int 0, .int 0, .int 0, .int 0, .int 0, .int 0, .int 0, .int 0, .int 0, .int 0, .int 0, .int 0, .int 0, .int 0, .int 0, .int 0, .int 0, .null, .int 0, .int 0, .int 0, .int 0, .int 0, .int 0, .int 0, .int 0, .null, .null, .null, .null, .int 0, .int 0, .int 0, .int 0, .int 0]))] sz)) 6 634 (va_A [(h0, .inr (4, [.int 0, .null, .int 0, .int 0, .int 0, .int 0, .int 0, .int 0, .int 0, .int 0, .int 0, .int 0, .int 0, .int 0, .int 0, .int 0, .int 0, .int 0, .int 0, .int 0, .null, .int 0, .int 0, .int 0, .int 0, .int 0, .int 0, .int 0, .int 0, .null, .null, .null, .null, .int 0, .int 0, .int 0, .int 0, .int 0]))] sz) := by
  refine Met.ofW (cc := b_Mod_init) (maxL := 1) (ret := none) (by decide) rfl ?_
  intro p e s m args below meth c s₁ B hml hv
  obtain ⟨rfl, hsz, hP, hX, hD0, hN⟩ := hv
  have hx := B.exec
  have hb := B.bytes
  have hr := B.returns
  have hts := atoms_spec (ws := w_Mod_init) B.pre
  have hts : ∀ w ∈ aw, w.before ([.ref h0] : List Value).toArray s = true := fun w h => hts w (List.mem_cons_of_mem _ h)
  have hown : s.vm.findClass "HeadDeskModel" = some m.cls := findClass_of_methodNamed B.named
  have hlocks := B.notSynchronized
  have hin := (name_of_methodNamed B.named B.method).1
  subst hsz
  have hD := hD0.self (sz := s.heap.size)
  generalize hAe : va_A [(h0, .inr (4, [.int 0, .null, .int 0, .int 0, .int 0, .int 0, .int 0, .int 0, .int 0, .int 0, .int 0, .int 0, .int 0, .int 0, .int 0, .int 0, .int 0, .int 0, .int 0, .int 0, .null, .int 0, .int 0, .int 0, .int 0, .int 0, .int 0, .int 0, .int 0, .null, .null, .null, .null, .int 0, .int 0, .int 0, .int 0, .int 0]))] s.heap.size = A at hX hD ⊢
  have hA : ∀ q : Nat, s.heap.size ≤ q → A q := fun q h => by rw [← hAe]; exact Or.inr h
  have hS : va_S A s.heap s.heap [] := va_S.rf
  have hP : va_P D vwCl [(h0, .inr (4, [.int 0, .null, .int 0, .int 0, .int 0, .int 0, .int 0, .int 0, .int 0, .int 0, .int 0, .int 0, .int 0, .int 0, .int 0, .int 0, .int 0, .int 0, .int 0, .int 0, .null, .int 0, .int 0, .int 0, .int 0, .int 0, .int 0, .int 0, .int 0, .null, .null, .null, .null, .int 0, .int 0, .int 0, .int 0, .int 0]))] s.heap := hP
  have hD : va_D A [(h0, .inr (4, [.int 0, .null, .int 0, .int 0, .int 0, .int 0, .int 0, .int 0, .int 0, .int 0, .int 0, .int 0, .int 0, .int 0, .int 0, .int 0, .int 0, .int 0, .int 0, .int 0, .null, .int 0, .int 0, .int 0, .int 0, .int 0, .int 0, .int 0, .int 0, .null, .null, .null, .null, .int 0, .int 0, .int 0, .int 0, .int 0]))] := hD
  have hK := hX.1
  have hl := lv_entry ([.ref h0]) (n := 1) (Nat.le_of_ble_eq_true rfl)
  rw [lg_entry_eq]
  generalize (lg_sl ([.ref h0]) ++ List.replicate (1 - (lg_sl ([.ref h0])).length) Slot.unset).toArray = ls at hl ⊢
  have hl : lv_has ls 1 [(0, .ref h0)] := hl
  refine lv_aload_n hx hb d_Mod_init_0 rfl (lv_at hl 0 rfl) ?_
  refine W.objInit hx hb hown (hts _ m_2_216) (hts _ m_1_22) (hts _ m_1_23) rfl (by rw [hml]; exact hl.1) rfl d_Mod_init_1 (Nat.le_of_ble_eq_true rfl) (Nat.le_of_ble_eq_true rfl) ?_
  refine W.eq (g2 := F0 m 4 ls []) rfl ?_
  refine lv_aload_n hx hb d_Mod_init_4 rfl (lv_at hl 0 rfl) ?_
  refine lv_sipush (v := 300) hx hb d_Mod_init_5 (by decide) ?_
  refine va_newa (atype := .int) (a0 := (300, .inl (fun _ => 0))) (N' := 300) (ty := .int) hx hb (hts _ m_1_59) rfl hK hP hD hS hA (fun _ => rfl) (by decide) (by decide) (by decide) (Nat.le_of_ble_eq_true rfl) (Nat.le_of_ble_eq_true rfl) d_Mod_init_8 (fun q8 c8 H hK hP hD hS => ?_)
  have hP : va_P D vwCl [(h0, .inr (4, [.int 0, .null, .int 0, .int 0, .int 0, .int 0, .int 0, .int 0, .int 0, .int 0, .int 0, .int 0, .int 0, .int 0, .int 0, .int 0, .int 0, .int 0, .int 0, .int 0, .null, .int 0, .int 0, .int 0, .int 0, .int 0, .int 0, .int 0, .int 0, .null, .null, .null, .null, .int 0, .int 0, .int 0, .int 0, .int 0])), (q8, .inl (c8, 300, .inl (fun _ => 0)))] H := hP
  have hD : va_D A [(h0, .inr (4, [.int 0, .null, .int 0, .int 0, .int 0, .int 0, .int 0, .int 0, .int 0, .int 0, .int 0, .int 0, .int 0, .int 0, .int 0, .int 0, .int 0, .int 0, .int 0, .int 0, .null, .int 0, .int 0, .int 0, .int 0, .int 0, .int 0, .int 0, .int 0, .null, .null, .null, .null, .int 0, .int 0, .int 0, .int 0, .int 0])), (q8, .inl (c8, 300, .inl (fun _ => 0)))] := hD
  have hK : va_K D vwCl [(c8, .int)] s := hK
  refine va_putF (D := D) (ci := 4) (v := .ref q8) (ty := .array .int) (C := "HeadDeskModel") (T := F_Mod) (N := 38) hx hb hts a_Mod t_Mod k_Mod n_Mod hown hK hP hD hS 0 rfl rfl 1 (by decide) (hts _ m_2_218) (fun _ h9 => h9) rfl hin rfl (by decide +kernel) rfl rfl (Nat.le_of_ble_eq_true rfl) d_Mod_init_10 (fun H locs hP hD hS => ?_)
  have hP : va_P D vwCl [(h0, .inr (4, [.int 0, .ref q8, .int 0, .int 0, .int 0, .int 0, .int 0, .int 0, .int 0, .int 0, .int 0, .int 0, .int 0, .int 0, .int 0, .int 0, .int 0, .int 0, .int 0, .int 0, .null, .int 0, .int 0, .int 0, .int 0, .int 0, .int 0, .int 0, .int 0, .null, .null, .null, .null, .int 0, .int 0, .int 0, .int 0, .int 0])), (q8, .inl (c8, 300, .inl (fun _ => 0)))] H := hP
  have hD : va_D A [(h0, .inr (4, [.int 0, .ref q8, .int 0, .int 0, .int 0, .int 0, .int 0, .int 0, .int 0, .int 0, .int 0, .int 0, .int 0, .int 0, .int 0, .int 0, .int 0, .int 0, .int 0, .int 0, .null, .int 0, .int 0, .int 0, .int 0, .int 0, .int 0, .int 0, .int 0, .null, .null, .null, .null, .int 0, .int 0, .int 0, .int 0, .int 0])), (q8, .inl (c8, 300, .inl (fun _ => 0)))] := hD
  refine lv_aload_n hx hb d_Mod_init_13 rfl (lv_at hl 0 rfl) ?_
  refine lv_iconst (v := (-1)) hx hb d_Mod_init_14 (by decide) ?_
  refine va_put (D := D) (ci := 4) (v := .int (-1)) (ty := .int) (C := "HeadDeskModel") (T := F_Mod) (N := 38) hx hb hts a_Mod t_Mod k_Mod n_Mod hown hK hP hD hS 0 rfl rfl 3 (by decide) (hts _ m_2_220) (fun _ h9 => h9) rfl (by decide +kernel) rfl rfl (Nat.le_of_ble_eq_true rfl) d_Mod_init_15 (fun H locs hP hD hS => ?_)
  have hP : va_P D vwCl [(h0, .inr (4, [.int 0, .ref q8, .int 0, .int (-1), .int 0, .int 0, .int 0, .int 0, .int 0, .int 0, .int 0, .int 0, .int 0, .int 0, .int 0, .int 0, .int 0, .int 0, .int 0, .int 0, .null, .int 0, .int 0, .int 0, .int 0, .int 0, .int 0, .int 0, .int 0, .null, .null, .null, .null, .int 0, .int 0, .int 0, .int 0, .int 0])), (q8, .inl (c8, 300, .inl (fun _ => 0)))] H := hP
  have hD : va_D A [(h0, .inr (4, [.int 0, .ref q8, .int 0, .int (-1), .int 0, .int 0, .int 0, .int 0, .int 0, .int 0, .int 0, .int 0, .int 0, .int 0, .int 0, .int 0, .int 0, .int 0, .int 0, .int 0, .null, .int 0, .int 0, .int 0, .int 0, .int 0, .int 0, .int 0, .int 0, .null, .null, .null, .null, .int 0, .int 0, .int 0, .int 0, .int 0])), (q8, .inl (c8, 300, .inl (fun _ => 0)))] := hD
  refine lv_aload_n hx hb d_Mod_init_18 rfl (lv_at hl 0 rfl) ?_
  refine lv_bipush (v := 8) hx hb d_Mod_init_19 (by decide) ?_
  refine va_newa (atype := .int) (a0 := (8, .inl (fun _ => 0))) (N' := 8) (ty := .int) hx hb (hts _ m_1_59) rfl hK hP hD hS hA (fun _ => rfl) (by decide) (by decide) (by decide) (Nat.le_of_ble_eq_true rfl) (Nat.le_of_ble_eq_true rfl) d_Mod_init_21 (fun q21 c21 H hK hP hD hS => ?_)
  have hP : va_P D vwCl [(h0, .inr (4, [.int 0, .ref q8, .int 0, .int (-1), .int 0, .int 0, .int 0, .int 0, .int 0, .int 0, .int 0, .int 0, .int 0, .int 0, .int 0, .int 0, .int 0, .int 0, .int 0, .int 0, .null, .int 0, .int 0, .int 0, .int 0, .int 0, .int 0, .int 0, .int 0, .null, .null, .null, .null, .int 0, .int 0, .int 0, .int 0, .int 0])), (q8, .inl (c8, 300, .inl (fun _ => 0))), (q21, .inl (c21, 8, .inl (fun _ => 0)))] H := hP
  have hD : va_D A [(h0, .inr (4, [.int 0, .ref q8, .int 0, .int (-1), .int 0, .int 0, .int 0, .int 0, .int 0, .int 0, .int 0, .int 0, .int 0, .int 0, .int 0, .int 0, .int 0, .int 0, .int 0, .int 0, .null, .int 0, .int 0, .int 0, .int 0, .int 0, .int 0, .int 0, .int 0, .null, .null, .null, .null, .int 0, .int 0, .int 0, .int 0, .int 0])), (q8, .inl (c8, 300, .inl (fun _ => 0))), (q21, .inl (c21, 8, .inl (fun _ => 0)))] := hD
  have hK : va_K D vwCl [(c8, .int), (c21, .int)] s := hK
  refine va_putF (D := D) (ci := 4) (v := .ref q21) (ty := .array .int) (C := "HeadDeskModel") (T := F_Mod) (N := 38) hx hb hts a_Mod t_Mod k_Mod n_Mod hown hK hP hD hS 0 rfl rfl 20 (by decide) (hts _ m_2_237) (fun _ h9 => h9) rfl hin rfl (by decide +kernel) rfl rfl (Nat.le_of_ble_eq_true rfl) d_Mod_init_23 (fun H locs hP hD hS => ?_)
  have hP : va_P D vwCl [(h0, .inr (4, [.int 0, .ref q8, .int 0, .int (-1), .int 0, .int 0, .int 0, .int 0, .int 0, .int 0, .int 0, .int 0, .int 0, .int 0, .int 0, .int 0, .int 0, .int 0, .int 0, .int 0, .ref q21, .int 0, .int 0, .int 0, .int 0, .int 0, .int 0, .int 0, .int 0, .null, .null, .null, .null, .int 0, .int 0, .int 0, .int 0, .int 0])), (q8, .inl (c8, 300, .inl (fun _ => 0))), (q21, .inl (c21, 8, .inl (fun _ => 0)))] H := hP
  have hD : va_D A [(h0, .inr (4, [.int 0, .ref q8, .int 0, .int (-1), .int 0, .int 0, .int 0, .int 0, .int 0, .int 0, .int 0, .int 0, .int 0, .int 0, .int 0, .int 0, .int 0, .int 0, .int 0, .int 0, .ref q21, .int 0, .int 0, .int 0, .int 0, .int 0, .int 0, .int 0, .int 0, .null, .null, .null, .null, .int 0, .int 0, .int 0, .int 0, .int 0])), (q8, .inl (c8, 300, .inl (fun _ => 0))), (q21, .inl (c21, 8, .inl (fun _ => 0)))] := hD
  refine lv_aload_n hx hb d_Mod_init_26 rfl (lv_at hl 0 rfl) ?_
  refine lv_sipush (v := 150) hx hb d_Mod_init_27 (by decide) ?_
  refine va_newa (atype := .int) (a0 := (150, .inl (fun _ => 0))) (N' := 150) (ty := .int) hx hb (hts _ m_1_59) rfl hK hP hD hS hA (fun _ => rfl) (by decide) (by decide) (by decide) (Nat.le_of_ble_eq_true rfl) (Nat.le_of_ble_eq_true rfl) d_Mod_init_30 (fun q30 c30 H hK hP hD hS => ?_)
  have hP : va_P D vwCl [(h0, .inr (4, [.int 0, .ref q8, .int 0, .int (-1), .int 0, .int 0, .int 0, .int 0, .int 0, .int 0, .int 0, .int 0, .int 0, .int 0, .int 0, .int 0, .int 0, .int 0, .int 0, .int 0, .ref q21, .int 0, .int 0, .int 0, .int 0, .int 0, .int 0, .int 0, .int 0, .null, .null, .null, .null, .int 0, .int 0, .int 0, .int 0, .int 0])), (q8, .inl (c8, 300, .inl (fun _ => 0))), (q21, .inl (c21, 8, .inl (fun _ => 0))), (q30, .inl (c30, 150, .inl (fun _ => 0)))] H := hP
  have hD : va_D A [(h0, .inr (4, [.int 0, .ref q8, .int 0, .int (-1), .int 0, .int 0, .int 0, .int 0, .int 0, .int 0, .int 0, .int 0, .int 0, .int 0, .int 0, .int 0, .int 0, .int 0, .int 0, .int 0, .ref q21, .int 0, .int 0, .int 0, .int 0, .int 0, .int 0, .int 0, .int 0, .null, .null, .null, .null, .int 0, .int 0, .int 0, .int 0, .int 0])), (q8, .inl (c8, 300, .inl (fun _ => 0))), (q21, .inl (c21, 8, .inl (fun _ => 0))), (q30, .inl (c30, 150, .inl (fun _ => 0)))] := hD
  have hK : va_K D vwCl [(c8, .int), (c21, .int), (c30, .int)] s := hK
  refine va_putF (D := D) (ci := 4) (v := .ref q30) (ty := .array .int) (C := "HeadDeskModel") (T := F_Mod) (N := 38) hx hb hts a_Mod t_Mod k_Mod n_Mod hown hK hP hD hS 0 rfl rfl 29 (by decide) (hts _ m_3_6) (fun _ h9 => h9) rfl hin rfl (by decide +kernel) rfl rfl (Nat.le_of_ble_eq_true rfl) d_Mod_init_32 (fun H locs hP hD hS => ?_)
  have hP : va_P D vwCl [(h0, .inr (4, [.int 0, .ref q8, .int 0, .int (-1), .int 0, .int 0, .int 0, .int 0, .int 0, .int 0, .int 0, .int 0, .int 0, .int 0, .int 0, .int 0, .int 0, .int 0, .int 0, .int 0, .ref q21, .int 0, .int 0, .int 0, .int 0, .int 0, .int 0, .int 0, .int 0, .ref q30, .null, .null, .null, .int 0, .int 0, .int 0, .int 0, .int 0])), (q8, .inl (c8, 300, .inl (fun _ => 0))), (q21, .inl (c21, 8, .inl (fun _ => 0))), (q30, .inl (c30, 150, .inl (fun _ => 0)))] H := hP
  have hD : va_D A [(h0, .inr (4, [.int 0, .ref q8, .int 0, .int (-1), .int 0, .int 0, .int 0, .int 0, .int 0, .int 0, .int 0, .int 0, .int 0, .int 0, .int 0, .int 0, .int 0, .int 0, .int 0, .int 0, .ref q21, .int 0, .int 0, .int 0, .int 0, .int 0, .int 0, .int 0, .int 0, .ref q30, .null, .null, .null, .int 0, .int 0, .int 0, .int 0, .int 0])), (q8, .inl (c8, 300, .inl (fun _ => 0))), (q21, .inl (c21, 8, .inl (fun _ => 0))), (q30, .inl (c30, 150, .inl (fun _ => 0)))] := hD
  refine lv_aload_n hx hb d_Mod_init_35 rfl (lv_at hl 0 rfl) ?_
  refine lv_sipush (v := 150) hx hb d_Mod_init_36 (by decide) ?_
  refine va_newa (atype := .int) (a0 := (150, .inl (fun _ => 0))) (N' := 150) (ty := .int) hx hb (hts _ m_1_59) rfl hK hP hD hS hA (fun _ => rfl) (by decide) (by decide) (by decide) (Nat.le_of_ble_eq_true rfl) (Nat.le_of_ble_eq_true rfl) d_Mod_init_39 (fun q39 c39 H hK hP hD hS => ?_)
  have hP : va_P D vwCl [(h0, .inr (4, [.int 0, .ref q8, .int 0, .int (-1), .int 0, .int 0, .int 0, .int 0, .int 0, .int 0, .int 0, .int 0, .int 0, .int 0, .int 0, .int 0, .int 0, .int 0, .int 0, .int 0, .ref q21, .int 0, .int 0, .int 0, .int 0, .int 0, .int 0, .int 0, .int 0, .ref q30, .null, .null, .null, .int 0, .int 0, .int 0, .int 0, .int 0])), (q8, .inl (c8, 300, .inl (fun _ => 0))), (q21, .inl (c21, 8, .inl (fun _ => 0))), (q30, .inl (c30, 150, .inl (fun _ => 0))), (q39, .inl (c39, 150, .inl (fun _ => 0)))] H := hP
  have hD : va_D A [(h0, .inr (4, [.int 0, .ref q8, .int 0, .int (-1), .int 0, .int 0, .int 0, .int 0, .int 0, .int 0, .int 0, .int 0, .int 0, .int 0, .int 0, .int 0, .int 0, .int 0, .int 0, .int 0, .ref q21, .int 0, .int 0, .int 0, .int 0, .int 0, .int 0, .int 0, .int 0, .ref q30, .null, .null, .null, .int 0, .int 0, .int 0, .int 0, .int 0])), (q8, .inl (c8, 300, .inl (fun _ => 0))), (q21, .inl (c21, 8, .inl (fun _ => 0))), (q30, .inl (c30, 150, .inl (fun _ => 0))), (q39, .inl (c39, 150, .inl (fun _ => 0)))] := hD
  have hK : va_K D vwCl [(c8, .int), (c21, .int), (c30, .int), (c39, .int)] s := hK
  refine va_putF (D := D) (ci := 4) (v := .ref q39) (ty := .array .int) (C := "HeadDeskModel") (T := F_Mod) (N := 38) hx hb hts a_Mod t_Mod k_Mod n_Mod hown hK hP hD hS 0 rfl rfl 30 (by decide) (hts _ m_3_7) (fun _ h9 => h9) rfl hin rfl (by decide +kernel) rfl rfl (Nat.le_of_ble_eq_true rfl) d_Mod_init_41 (fun H locs hP hD hS => ?_)
  have hP : va_P D vwCl [(h0, .inr (4, [.int 0, .ref q8, .int 0, .int (-1), .int 0, .int 0, .int 0, .int 0, .int 0, .int 0, .int 0, .int 0, .int 0, .int 0, .int 0, .int 0, .int 0, .int 0, .int 0, .int 0, .ref q21, .int 0, .int 0, .int 0, .int 0, .int 0, .int 0, .int 0, .int 0, .ref q30, .ref q39, .null, .null, .int 0, .int 0, .int 0, .int 0, .int 0])), (q8, .inl (c8, 300, .inl (fun _ => 0))), (q21, .inl (c21, 8, .inl (fun _ => 0))), (q30, .inl (c30, 150, .inl (fun _ => 0))), (q39, .inl (c39, 150, .inl (fun _ => 0)))] H := hP
  have hD : va_D A [(h0, .inr (4, [.int 0, .ref q8, .int 0, .int (-1), .int 0, .int 0, .int 0, .int 0, .int 0, .int 0, .int 0, .int 0, .int 0, .int 0, .int 0, .int 0, .int 0, .int 0, .int 0, .int 0, .ref q21, .int 0, .int 0, .int 0, .int 0, .int 0, .int 0, .int 0, .int 0, .ref q30, .ref q39, .null, .null, .int 0, .int 0, .int 0, .int 0, .int 0])), (q8, .inl (c8, 300, .inl (fun _ => 0))), (q21, .inl (c21, 8, .inl (fun _ => 0))), (q30, .inl (c30, 150, .inl (fun _ => 0))), (q39, .inl (c39, 150, .inl (fun _ => 0)))] := hD
  refine lv_aload_n hx hb d_Mod_init_44 rfl (lv_at hl 0 rfl) ?_
  refine lv_bipush (v := 18) hx hb d_Mod_init_45 (by decide) ?_
  refine va_newa (atype := .int) (a0 := (18, .inl (fun _ => 0))) (N' := 18) (ty := .int) hx hb (hts _ m_1_59) rfl hK hP hD hS hA (fun _ => rfl) (by decide) (by decide) (by decide) (Nat.le_of_ble_eq_true rfl) (Nat.le_of_ble_eq_true rfl) d_Mod_init_47 (fun q47 c47 H hK hP hD hS => ?_)
  have hP : va_P D vwCl [(h0, .inr (4, [.int 0, .ref q8, .int 0, .int (-1), .int 0, .int 0, .int 0, .int 0, .int 0, .int 0, .int 0, .int 0, .int 0, .int 0, .int 0, .int 0, .int 0, .int 0, .int 0, .int 0, .ref q21, .int 0, .int 0, .int 0, .int 0, .int 0, .int 0, .int 0, .int 0, .ref q30, .ref q39, .null, .null, .int 0, .int 0, .int 0, .int 0, .int 0])), (q8, .inl (c8, 300, .inl (fun _ => 0))), (q21, .inl (c21, 8, .inl (fun _ => 0))), (q30, .inl (c30, 150, .inl (fun _ => 0))), (q39, .inl (c39, 150, .inl (fun _ => 0))), (q47, .inl (c47, 18, .inl (fun _ => 0)))] H := hP
  have hD : va_D A [(h0, .inr (4, [.int 0, .ref q8, .int 0, .int (-1), .int 0, .int 0, .int 0, .int 0, .int 0, .int 0, .int 0, .int 0, .int 0, .int 0, .int 0, .int 0, .int 0, .int 0, .int 0, .int 0, .ref q21, .int 0, .int 0, .int 0, .int 0, .int 0, .int 0, .int 0, .int 0, .ref q30, .ref q39, .null, .null, .int 0, .int 0, .int 0, .int 0, .int 0])), (q8, .inl (c8, 300, .inl (fun _ => 0))), (q21, .inl (c21, 8, .inl (fun _ => 0))), (q30, .inl (c30, 150, .inl (fun _ => 0))), (q39, .inl (c39, 150, .inl (fun _ => 0))), (q47, .inl (c47, 18, .inl (fun _ => 0)))] := hD
  have hK : va_K D vwCl [(c8, .int), (c21, .int), (c30, .int), (c39, .int), (c47, .int)] s := hK
  refine va_putF (D := D) (ci := 4) (v := .ref q47) (ty := .array .int) (C := "HeadDeskModel") (T := F_Mod) (N := 38) hx hb hts a_Mod t_Mod k_Mod n_Mod hown hK hP hD hS 0 rfl rfl 31 (by decide) (hts _ m_3_8) (fun _ h9 => h9) rfl hin rfl (by decide +kernel) rfl rfl (Nat.le_of_ble_eq_true rfl) d_Mod_init_49 (fun H locs hP hD hS => ?_)
  have hP : va_P D vwCl [(h0, .inr (4, [.int 0, .ref q8, .int 0, .int (-1), .int 0, .int 0, .int 0, .int 0, .int 0, .int 0, .int 0, .int 0, .int 0, .int 0, .int 0, .int 0, .int 0, .int 0, .int 0, .int 0, .ref q21, .int 0, .int 0, .int 0, .int 0, .int 0, .int 0, .int 0, .int 0, .ref q30, .ref q39, .ref q47, .null, .int 0, .int 0, .int 0, .int 0, .int 0])), (q8, .inl (c8, 300, .inl (fun _ => 0))), (q21, .inl (c21, 8, .inl (fun _ => 0))), (q30, .inl (c30, 150, .inl (fun _ => 0))), (q39, .inl (c39, 150, .inl (fun _ => 0))), (q47, .inl (c47, 18, .inl (fun _ => 0)))] H := hP
  have hD : va_D A [(h0, .inr (4, [.int 0, .ref q8, .int 0, .int (-1), .int 0, .int 0, .int 0, .int 0, .int 0, .int 0, .int 0, .int 0, .int 0, .int 0, .int 0, .int 0, .int 0, .int 0, .int 0, .int 0, .ref q21, .int 0, .int 0, .int 0, .int 0, .int 0, .int 0, .int 0, .int 0, .ref q30, .ref q39, .ref q47, .null, .int 0, .int 0, .int 0, .int 0, .int 0])), (q8, .inl (c8, 300, .inl (fun _ => 0))), (q21, .inl (c21, 8, .inl (fun _ => 0))), (q30, .inl (c30, 150, .inl (fun _ => 0))), (q39, .inl (c39, 150, .inl (fun _ => 0))), (q47, .inl (c47, 18, .inl (fun _ => 0)))] := hD
  refine lv_aload_n hx hb d_Mod_init_52 rfl (lv_at hl 0 rfl) ?_
  refine lv_bipush (v := 8) hx hb d_Mod_init_53 (by decide) ?_
  refine va_newa (atype := .int) (a0 := (8, .inl (fun _ => 0))) (N' := 8) (ty := .int) hx hb (hts _ m_1_59) rfl hK hP hD hS hA (fun _ => rfl) (by decide) (by decide) (by decide) (Nat.le_of_ble_eq_true rfl) (Nat.le_of_ble_eq_true rfl) d_Mod_init_55 (fun q55 c55 H hK hP hD hS => ?_)
  have hP : va_P D vwCl [(h0, .inr (4, [.int 0, .ref q8, .int 0, .int (-1), .int 0, .int 0, .int 0, .int 0, .int 0, .int 0, .int 0, .int 0, .int 0, .int 0, .int 0, .int 0, .int 0, .int 0, .int 0, .int 0, .ref q21, .int 0, .int 0, .int 0, .int 0, .int 0, .int 0, .int 0, .int 0, .ref q30, .ref q39, .ref q47, .null, .int 0, .int 0, .int 0, .int 0, .int 0])), (q8, .inl (c8, 300, .inl (fun _ => 0))), (q21, .inl (c21, 8, .inl (fun _ => 0))), (q30, .inl (c30, 150, .inl (fun _ => 0))), (q39, .inl (c39, 150, .inl (fun _ => 0))), (q47, .inl (c47, 18, .inl (fun _ => 0))), (q55, .inl (c55, 8, .inl (fun _ => 0)))] H := hP
  have hD : va_D A [(h0, .inr (4, [.int 0, .ref q8, .int 0, .int (-1), .int 0, .int 0, .int 0, .int 0, .int 0, .int 0, .int 0, .int 0, .int 0, .int 0, .int 0, .int 0, .int 0, .int 0, .int 0, .int 0, .ref q21, .int 0, .int 0, .int 0, .int 0, .int 0, .int 0, .int 0, .int 0, .ref q30, .ref q39, .ref q47, .null, .int 0, .int 0, .int 0, .int 0, .int 0])), (q8, .inl (c8, 300, .inl (fun _ => 0))), (q21, .inl (c21, 8, .inl (fun _ => 0))), (q30, .inl (c30, 150, .inl (fun _ => 0))), (q39, .inl (c39, 150, .inl (fun _ => 0))), (q47, .inl (c47, 18, .inl (fun _ => 0))), (q55, .inl (c55, 8, .inl (fun _ => 0)))] := hD
  have hK : va_K D vwCl [(c8, .int), (c21, .int), (c30, .int), (c39, .int), (c47, .int), (c55, .int)] s := hK
  refine va_putF (D := D) (ci := 4) (v := .ref q55) (ty := .array .int) (C := "HeadDeskModel") (T := F_Mod) (N := 38) hx hb hts a_Mod t_Mod k_Mod n_Mod hown hK hP hD hS 0 rfl rfl 32 (by decide) (hts _ m_3_9) (fun _ h9 => h9) rfl hin rfl (by decide +kernel) rfl rfl (Nat.le_of_ble_eq_true rfl) d_Mod_init_57 (fun H locs hP hD hS => ?_)
  have hP : va_P D vwCl [(h0, .inr (4, [.int 0, .ref q8, .int 0, .int (-1), .int 0, .int 0, .int 0, .int 0, .int 0, .int 0, .int 0, .int 0, .int 0, .int 0, .int 0, .int 0, .int 0, .int 0, .int 0, .int 0, .ref q21, .int 0, .int 0, .int 0, .int 0, .int 0, .int 0, .int 0, .int 0, .ref q30, .ref q39, .ref q47, .ref q55, .int 0, .int 0, .int 0, .int 0, .int 0])), (q8, .inl (c8, 300, .inl (fun _ => 0))), (q21, .inl (c21, 8, .inl (fun _ => 0))), (q30, .inl (c30, 150, .inl (fun _ => 0))), (q39, .inl (c39, 150, .inl (fun _ => 0))), (q47, .inl (c47, 18, .inl (fun _ => 0))), (q55, .inl (c55, 8, .inl (fun _ => 0)))] H := hP
  have hD : va_D A [(h0, .inr (4, [.int 0, .ref q8, .int 0, .int (-1), .int 0, .int 0, .int 0, .int 0, .int 0, .int 0, .int 0, .int 0, .int 0, .int 0, .int 0, .int 0, .int 0, .int 0, .int 0, .int 0, .ref q21, .int 0, .int 0, .int 0, .int 0, .int 0, .int 0, .int 0, .int 0, .ref q30, .ref q39, .ref q47, .ref q55, .int 0, .int 0, .int 0, .int 0, .int 0])), (q8, .inl (c8, 300, .inl (fun _ => 0))), (q21, .inl (c21, 8, .inl (fun _ => 0))), (q30, .inl (c30, 150, .inl (fun _ => 0))), (q39, .inl (c39, 150, .inl (fun _ => 0))), (q47, .inl (c47, 18, .inl (fun _ => 0))), (q55, .inl (c55, 8, .inl (fun _ => 0)))] := hD
  obtain ⟨u, eu⟩ : ∃ z : (Nat → Nat) × (Nat → ClassId), z = (fun k => ([h0, q8, q21, q30, q39, q47, q55] : List Nat).getD k 0, fun k => ([c8, c21, c30, c39, c47, c55] : List ClassId).getD k c8) := ⟨_, rfl⟩
  have hP9 : va_P D vwCl (mdW u.1 u.2 s_0) H := by rw [eu]; exact hP.sub [0, 1, 2, 3, 4, 5, 6] rfl
  have hD9 : va_D A (mdW u.1 u.2 s_0) := by rw [eu]; exact hD.sub [0, 1, 2, 3, 4, 5, 6] (by decide) rfl
  have hK9 : va_K D vwCl (tyM u.2) s := by rw [eu]; exact hK.sub [0, 1, 2, 3, 4, 5] rfl
  refine W.widen (k := 6) (n := 634) (Nat.le_of_ble_eq_true rfl) (Nat.le_of_ble_eq_true rfl) ?_
  exact W.vret hx hb hr (fun t ht hW => ⟨⟨u, rfl, trivial, by rw [eu]; rfl, by rw [ht]; exact hP9, va_K.moved hW.alike hK9, hD9⟩, hS.F ht⟩) hS.2.2 d_Mod_init_60
