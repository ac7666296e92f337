variable {l : Launch} {D : va_G} {ad : Nat → Nat} {cd : Nat → ClassId} {adK adV : Nat → Nat} {tF : Nat}
theorem hx_ofWH {y : MethodName} {ws ws' : List Cond} {rm : Room} {Pc : Array Value → State → Prop} {Qc : Array Value → State → Outcome → State → Prop} {mc ms : Nat} {free : Addr → Prop} {cc : ByteArray} {maxL : Nat} {ret : Option FieldType} {hh : List (Nat × Nat × Nat × Nat)}
    (hy : plainName y.cls = true) (hw : ws = Cond.codeWith y cc maxL ret hh :: ws')
    (body : ∀ p e s m args below meth c s₁, BodyLoose p l y (headSpec ws rm) cc maxL ret e s m args below meth c s₁ → c.maxLocals = maxL → Pc args s →
      W p l e (headSpec ws rm).room s m args below meth c s.heap [] 0 0 (MQ below Qc args s mc ms free) (entryFrame m args maxL)) : Met l y ws rm Pc Qc mc ms free := by
  refine MetFree.of_bodyS (code := cc) (maxLocals := maxL) (ret := ret) hy ?_ ?_
  · intro args s m h hn
    obtain ⟨m9, meth, c, hn9, h1, h2, h3, h4, -, h5, h6, -⟩ := Cond.codeWith_spec (atoms_spec (ws := ws) h _ (by rw [hw]; exact List.mem_cons_self))
    cases hn.symm.trans hn9
    exact ⟨meth, c, h1, h2, h3, h4, h5, h6⟩
  · intro p e s m args below meth c s₁ B hml hP _
    have hh0 : s₁.heap = s.heap := by rw [B.state]; rfl
    obtain ⟨t, a1, o, b1, b2, b3⟩ := body p e s m args below meth c s₁ B hml hP s₁ hh0 (Stand.of_body B)
    exact ⟨t, o, a1, b1, b2, ⟨b3.1, b3.2⟩⟩
abbrev lrW (ad : Nat → Nat) (cd : Nat → ClassId) (d : DS) (aO : Nat) (cO : ClassId) (f : Nat → Int64) : va_W := dkW ad cd d ++ [(aO, .inl (cO, 1, .inr (.inl f)))]
abbrev lrT (cd : Nat → ClassId) (cO : ClassId) : List (ClassId × FieldType) := tyH cd ++ [(cO, .long)]
abbrev lr_p (ad : Nat → Nat) (cd : Nat → ClassId) (f : Nat → Int64) (d : DS) (x : Int32) (r : Int32) (u : (Nat → Nat) × (Nat → ClassId) × (Nat → Int64)) : Prop := ((fRd d x).1 = true ∧ r = 0 ∧ u = (adS ad, cdS cd, vp_updL f 0 (dN (fRd d x).2).toInt64)) ∨ ((fRd d x).1 = false ∧ r = 1 ∧ u = (ad, cd, f))
set_option maxHeartbeats 4000000 in
set_option maxRecDepth 100000 in
theorem c_Law_read (hst : l.stackTraces = false) (d : DS) (hT : (dT d).2 ≤ 300) (x : Int32) (aO : Nat) (cO : ClassId) (f : Nat → Int64) (sz : Nat) : Met l y_Law_read w_Law_read (rmC 12 1 6) (hx_PcN D (lrT cd cO) adK adV tF (lrW ad cd d aO cO f) [.ref (ad 8), .int x, .ref aO] sz) (va_Qi (lr_p ad cd f d x) (fun u t => va_P D vwCl (lrW u.1 u.2.1 (fRd d x).2 aO cO u.2.2) t.heap ∧ va_D (va_A (lrW ad cd d aO cO f) sz) (lrW u.1 u.2.1 (fRd d x).2 aO cO u.2.2)) (va_A (lrW ad cd d aO cO f) sz)) 1 6 (va_A (lrW ad cd d aO cO f) sz) := by
  refine hx_ofWH (cc := b_Law_read) (maxL := 4) (ret := some .int) (hh := [(0, 9, 12, 13)]) (by decide) rfl ?_
  intro p e s m args below meth c s₁ B hml hv
  obtain ⟨rfl, hsz, hP, hX, hD0, hN⟩ := hv
  have hx := B.exec
  have hb := B.bytes
  have hr := B.returns
  have hts0 := atoms_spec (ws := w_Law_read) B.pre
  have hts : ∀ w ∈ aw, w.before ([.ref (ad 8), .int x, .ref aO] : List Value).toArray s = true := fun w h => hts0 w (List.mem_cons_of_mem _ h)
  have htb : c.exceptionTable.toList = [⟨0, 9, 12, 13⟩] := vx_table (x := y_Law_read) B (hts0 _ List.mem_cons_self)
  have hown : s.vm.findClass "HeadDeskLaw" = some m.cls := findClass_of_methodNamed B.named
  have hlocks := B.notSynchronized
  subst hsz
  have hD := hD0.self (sz := s.heap.size)
  have hA : ∀ q : Nat, s.heap.size ≤ q → va_A (lrW ad cd d aO cO f) s.heap.size q := fun q h => Or.inr h
  generalize hAe : va_A (lrW ad cd d aO cO f) s.heap.size = A at hX hD hA ⊢
  have hI : hx_In p s m ([.ref (ad 8), .int x, .ref aO] : List Value).toArray c b_Law_read 4 "HeadDeskLaw" aw := ⟨hx, hb, hml, hown, hts⟩
  have hl := lv_entry ([.ref (ad 8), .int x, .ref aO]) (n := 4) (Nat.le_of_ble_eq_true rfl)
  rw [lg_entry_eq]
  generalize (lg_sl ([.ref (ad 8), .int x, .ref aO]) ++ List.replicate (4 - (lg_sl ([.ref (ad 8), .int x, .ref aO])).length) Slot.unset).toArray = ls at hl ⊢
  have hl : lv_has ls 4 [(0, .ref (ad 8)), (1, .int x), (2, .ref aO)] := hl
  have hS : va_S A s.heap s.heap [] := va_S.rf
  refine lv_aload_n hx hb d_Law_read_0 rfl (lv_at hl 2 rfl) ?_
  refine lv_iconst (v := 0) hx hb d_Law_read_1 (by decide) ?_
  refine lv_aload_n hx hb d_Law_read_2 rfl (lv_at hl 0 rfl) ?_
  refine lv_iload_n hx hb d_Law_read_3 rfl (lv_at hl 1 rfl) ?_
  have hXd : hx_X D (tyH cd) adK adV tF A s s.heap := ⟨hX.1.sub [0, 1, 2, 3, 4, 5, 6] rfl, hX.2⟩
  have hFc := va_free (wc := dkW ad cd d) hD hS hA [0, 1, 2, 3, 4, 5, 6, 7, 8, 9, 10, 11] rfl
  have hpc := hx_preN hXd hN hA hP hD hS [0, 1, 2, 3, 4, 5, 6, 7, 8, 9, 10, 11] (wc := dkW ad cd d) rfl (by decide) [.ref (ad 8), .int x]
  refine vx_calli (vx_runV (As := [.int x]) (rest := [.int 0, .ref aO]) hI (c_Desk_read hst d hT x s.heap.size) (cw_V (C := "HeadDesk") 1 hts m_1_173 m_1_174 m_1_175 m_1_1 m_1_176 (by decide +kernel) ⟨by decide, by decide⟩) ⟨hpc.1, va_recv hX.1 hP (ci := 3) (q0 := 0) rfl rfl, hpc.2⟩ rfl rfl hl.1 rfl (lv_room (Nat.le_of_ble_eq_true rfl)) d_Law_read_4 ⟨Nat.le_of_ble_eq_true rfl, Nat.le_of_ble_eq_true rfl⟩) hS (fun q _ h => hFc q h) hFc (fun q _ h => hFc q h) (fun E ce q9 u t H1 locs ht hvm hpx hBX hz1 hk1 hS hce hcv hcl => ?_) (fun r u t H1 locs ht hvm hw hB hz1 hk1 hS => ?_)
  · obtain ⟨hF, rfl⟩ := hpx
    obtain ⟨rfl, hP1, hD1⟩ := hBX
    rw [ht] at hP1
    obtain ⟨hP, hD⟩ := va_join (wr := [(aO, .inl (cO, 1, .inr (.inl f)))]) (w1 := dkW ad cd (fRd d x).2) hP hD [0, 1, 2, 3, 4, 5, 6, 7, 8, 9, 10, 11] [12] rfl rfl (by decide) (by decide) hk1 hFc hP1 hD1
    refine vx_catch (own := "HeadDeskLaw") (name := tIAE) hown [] ⟨0, 9, 12, 13⟩ [] htb (fun z hz => absurd hz List.not_mem_nil) (by decide) (by decide) (hts _ m_1_172) (va_Nw.use rfl hN.1) hce hcv hcl ?_
    refine lv_astore_n (lv' := [(3, .ref q9), (0, .ref (ad 8)), (1, .int x), (2, .ref aO)]) hx hb d_Law_read_12 rfl hl (by decide) rfl (fun ls hl => ?_)
    refine lv_iconst (v := 1) hx hb d_Law_read_13 (by decide) ?_
    have hP9 : va_P D vwCl (lrW ad cd (fRd d x).2 aO cO f) H1 := hP.sub [1, 2, 3, 4, 5, 6, 7, 8, 9, 10, 11, 12, 0] rfl
    have hD9 : va_D A (lrW ad cd (fRd d x).2 aO cO f) := hD.sub [1, 2, 3, 4, 5, 6, 7, 8, 9, 10, 11, 12, 0] (by decide) rfl
    refine W.widen (k := 1) (n := 6) (Nat.le_of_ble_eq_true rfl) (Nat.le_of_ble_eq_true rfl) ?_
    exact W.iret (v := 1) hx hb hr (fun t ht hW => ⟨⟨1, (ad, cd, f), rfl, Or.inr ⟨hF, rfl, rfl⟩, by rw [ht]; exact hP9, hD9⟩, hS.F ht⟩) hS.2.2 d_Law_read_14
  · obtain ⟨hF, rfl, rfl⟩ := hw
    obtain ⟨hP1, hD1⟩ := hB
    rw [ht] at hP1
    obtain ⟨hP, hD⟩ := va_join (wr := [(aO, .inl (cO, 1, .inr (.inl f)))]) (w1 := dkW (adS ad) (cdS cd) (fRd d x).2) hP hD [0, 1, 2, 3, 4, 5, 6, 7, 8, 9, 10, 11] [12] rfl rfl (by decide) (by decide) hk1 hFc hP1 hD1
    refine lv_i2l (v := (dN (fRd d x).2).toInt64) hx hb d_Law_read_7 rfl ?_
    refine va_last hx hb hX.1 hP hD hS 0 7 rfl rfl (vp_in_iff.mpr (by decide)) d_Law_read_8 (fun H locs hP hD hS => ?_)
    refine lv_goto (tgt := 15) hx hb d_Law_read_9 (by decide) ?_
    refine lv_iconst (v := 0) hx hb d_Law_read_15 (by decide) ?_
    have hP9 : va_P D vwCl (lrW (adS ad) (cdS cd) (fRd d x).2 aO cO (vp_updL f 0 (dN (fRd d x).2).toInt64)) H := hP.sub [1, 2, 3, 4, 5, 6, 7, 8, 9, 10, 11, 12, 0] rfl
    have hD9 : va_D A (lrW (adS ad) (cdS cd) (fRd d x).2 aO cO (vp_updL f 0 (dN (fRd d x).2).toInt64)) := hD.sub [1, 2, 3, 4, 5, 6, 7, 8, 9, 10, 11, 12, 0] (by decide) rfl
    refine W.widen (k := 1) (n := 6) (Nat.le_of_ble_eq_true rfl) (Nat.le_of_ble_eq_true rfl) ?_
    exact W.iret (v := 0) hx hb hr (fun t ht hW => ⟨⟨0, (adS ad, cdS cd, (vp_updL f 0 (dN (fRd d x).2).toInt64)), rfl, Or.inl ⟨hF, rfl, rfl⟩, by rw [ht]; exact hP9, hD9⟩, hS.F ht⟩) hS.2.2 d_Law_read_16
