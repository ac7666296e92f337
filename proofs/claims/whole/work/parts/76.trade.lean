variable {l : Launch} {D : va_G} {ad : Nat → Nat} {cd : Nat → ClassId} {adK adV : Nat → Nat} {tF : Nat} {tys : List (ClassId × FieldType)}
def r1W (ad : Nat → Nat) (x : Nat) (rs : RS) : va_W := [(ad 0, .inr (1, [.ref (ad 1), .ref (ad 3), .ref (ad 4), .ref x, .int (rNm rs), .int (rKd rs), .int (rPl rs), .int (rSk rs), .int (rNb rs), .int (rWs rs), .int (rWe rs)]))]
set_option maxHeartbeats 4000000 in
set_option maxRecDepth 100000 in
theorem c_Reader_trade (x z : Nat) (rs : RS) (sz : Nat) : Met l y_Reader_trade w_Reader_trade (rmD 1) (hx_Pc D tys adK adV tF (r1W ad x rs) [.ref (ad 0), .ref z] sz) (va_Qr (fun _ : Unit => True) (fun _ a t => a = x ∧ va_P D vwCl (r1W ad z rs) t.heap ∧ va_D (va_A (r1W ad x rs) sz) (r1W ad z rs)) (va_A (r1W ad x rs) sz)) 0 0 (va_A (r1W ad x rs) sz) := by
  refine Met.ofW (cc := b_Reader_trade) (maxL := 3) (ret := some (.object "HeadDesk$Head")) (by decide) rfl ?_
  intro p e s m args below meth c s₁ B hml hv
  obtain ⟨rfl, hsz, hP, hX, hD0⟩ := hv
  have hx := B.exec
  have hb := B.bytes
  have hr := B.returns
  have hts := atoms_spec (ws := w_Reader_trade) B.pre
  have hts : ∀ w ∈ aw, w.before ([.ref (ad 0), .ref z] : List Value).toArray s = true := fun w h => hts w (List.mem_cons_of_mem _ h)
  have hown : s.vm.findClass "HeadDesk$Reader" = some m.cls := findClass_of_methodNamed B.named
  have hlocks := B.notSynchronized
  have hin := (name_of_methodNamed B.named B.method).1
  subst hsz
  have hD := hD0.self (sz := s.heap.size)
  generalize hAe : va_A (r1W ad x rs) s.heap.size = A at hX hD ⊢
  have hA : ∀ q : Nat, s.heap.size ≤ q → A q := fun q h => by rw [← hAe]; exact Or.inr h
  have hS : va_S A s.heap s.heap [] := va_S.rf
  have hP : va_P D vwCl (r1W ad x rs) s.heap := hP
  have hD : va_D A (r1W ad x rs) := hD
  have hK := hX.1
  have hl := lv_entry ([.ref (ad 0), .ref z]) (n := 3) (Nat.le_of_ble_eq_true rfl)
  rw [lg_entry_eq]
  generalize (lg_sl ([.ref (ad 0), .ref z]) ++ List.replicate (3 - (lg_sl ([.ref (ad 0), .ref z])).length) Slot.unset).toArray = ls at hl ⊢
  have hl : lv_has ls 3 [(0, .ref (ad 0)), (1, .ref z)] := hl
  have hP : va_P D vwCl [(ad 0, .inr (1, [.ref (ad 1), .ref (ad 3), .ref (ad 4), .ref x, .int (rNm rs), .int (rKd rs), .int (rPl rs), .int (rSk rs), .int (rNb rs), .int (rWs rs), .int (rWe rs)]))] s.heap := hP
  have hD : va_D A [(ad 0, .inr (1, [.ref (ad 1), .ref (ad 3), .ref (ad 4), .ref x, .int (rNm rs), .int (rKd rs), .int (rPl rs), .int (rSk rs), .int (rNb rs), .int (rWs rs), .int (rWe rs)]))] := hD
  refine lv_aload_n hx hb d_Reader_trade_0 rfl (lv_at hl 0 rfl) ?_
  refine va_get (D := D) (ci := 1) (v := .ref x) (C := "HeadDesk$Reader") (T := F_Reader) (N := 11) hx hb hts a_Reader hown hX.1 hP 0 rfl rfl 3 (by decide) (hts _ m_1_64) (fun _ h9 => h9) rfl d_Reader_trade_1 ?_
  refine lv_astore_n (lv' := [(2, .ref x), (0, .ref (ad 0)), (1, .ref z)]) hx hb d_Reader_trade_4 rfl hl (by decide) rfl (fun ls hl => ?_)
  refine lv_aload_n hx hb d_Reader_trade_5 rfl (lv_at hl 1 rfl) ?_
  refine lv_aload_n hx hb d_Reader_trade_6 rfl (lv_at hl 2 rfl) ?_
  refine va_put (D := D) (ci := 1) (v := .ref z) (ty := (.object "HeadDesk$Head")) (C := "HeadDesk$Reader") (T := F_Reader) (N := 11) hx hb hts a_Reader t_Reader k_Reader n_Reader hown hX.1 hP hD hS 0 rfl rfl 3 (by decide) (hts _ m_1_64) (fun _ h9 => h9) rfl (by decide +kernel) rfl rfl (Nat.le_of_ble_eq_true rfl) d_Reader_trade_7 (fun H locs hP hD hS => ?_)
  have hP : va_P D vwCl [(ad 0, .inr (1, [.ref (ad 1), .ref (ad 3), .ref (ad 4), .ref z, .int (rNm rs), .int (rKd rs), .int (rPl rs), .int (rSk rs), .int (rNb rs), .int (rWs rs), .int (rWe rs)]))] H := hP
  have hD : va_D A [(ad 0, .inr (1, [.ref (ad 1), .ref (ad 3), .ref (ad 4), .ref z, .int (rNm rs), .int (rKd rs), .int (rPl rs), .int (rSk rs), .int (rNb rs), .int (rWs rs), .int (rWe rs)]))] := hD
  refine lv_aload_n hx hb d_Reader_trade_10 rfl (lv_at hl 0 rfl) ?_
  exact W.aret (v := .ref x) hx hb hr (Or.inl ⟨_, rfl⟩) (Or.inr ⟨x, rfl⟩) (fun t ht hW => ⟨⟨(), x, rfl, trivial, rfl, by rw [ht]; exact hP, hD⟩, hS.F ht⟩) hS.2.2 d_Reader_trade_11
