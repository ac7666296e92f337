theorem rel_0 : Rel 0 d_0 s_0 := by
  refine ⟨⟨Int.le_refl _, (by decide : (0 : Int32).toInt ≤ 300), Int.le_refl _, (by decide : (0 : Int32).toInt ≤ 8)⟩, ⟨rfl, fun i h => ?_⟩, rfl, Int.le_refl _, Int.le_refl _, rfl, fun h => absurd rfl h⟩
  exact absurd h (show ¬ (i : Int) < 0 by omega)
theorem hst_of {l : Launch} (h : l.flags = flags0) : l.stackTraces = false := by
  unfold Launch.stackTraces
  rw [h]
  decide +kernel
set_option maxHeartbeats 8000000 in
set_option maxRecDepth 100000 in
theorem whole_start {p : Program} {e : Env} {s : State} {m : MethodId} {below : List Frame} {meth : Method} {c : Code} (l : Launch) (hst : l.stackTraces = false) {b L : Nat} {xs : Nat → Int32} (hL : L ≤ 2048) (C0 : lw_At p s m meth c b L xs) : W p l e room_1 s m #[Value.ref b] below meth c s.heap [] 0 0 (lw_Z below #[Value.ref b] s) (entryFrame m ([Value.ref b] : List Value).toArray 7) := by
  obtain ⟨hx, hb, hr, hml, hown, hts0, hX0, hbl, hlocks, hgv⟩ := id C0
  obtain ⟨D, adK, adV, tF, hX, hN⟩ := hx_start hts0 hgv
  have hts : ∀ w ∈ aw, w.before #[Value.ref b] s = true := fun w h => hts0 w (List.mem_filter.mp h).1
  have hown : s.vm.findClass "HeadDeskLaw" = some m.cls := hown
  have hA : ∀ q : Nat, s.heap.size ≤ q → (fun q : Nat => s.heap.size ≤ q) q := fun _ h => h
  have hS : va_S (fun q : Nat => s.heap.size ≤ q) s.heap s.heap [] := va_S.rf
  have hP : va_P D vwCl [] s.heap := fun k q h => by simp at h
  have hD : va_D (fun q : Nat => s.heap.size ≤ q) [] := ⟨fun i j p q h => by simp at h, fun k q h => by simp at h⟩
  have hl := lv_entry ([.ref b]) (n := 7) (Nat.le_of_ble_eq_true rfl)
  rw [lg_entry_eq]
  generalize (lg_sl ([.ref b]) ++ List.replicate (7 - (lg_sl ([.ref b])).length) Slot.unset).toArray = ls at hl ⊢
  have hl : lv_has ls 7 [(0, .ref b)] := hl
  refine va_new (ci := 3) (fs := [.null, .null, .null, .int 0, .int 0]) (C := "HeadDesk") (T := F_Desk) (N := 5) hx hb hts a_Desk t_Desk k_Desk hown (hts _ m_1_16) (hts _ m_1_17) (hts _ m_1_1) hX.1 hP hD hS hA rfl (by decide +kernel) (Nat.le_of_ble_eq_true rfl) (Nat.le_of_ble_eq_true rfl) d_law_0 (fun q0 H hP hD hS => ?_)
  have hP : va_P D vwCl [(q0, .inr (3, [.null, .null, .null, .int 0, .int 0]))] H := hP
  have hD : va_D (fun q : Nat => s.heap.size ≤ q) [(q0, .inr (3, [.null, .null, .null, .int 0, .int 0]))] := hD
  refine lv_dup hx hb d_law_3 rfl ?_
  have hFc := va_free (wc := [(q0, .inr (3, [.null, .null, .null, .int 0, .int 0]))]) hD hS hA [0] rfl
  have hpc := hx_preN ⟨va_K.sub (tys' := []) hX.1 [] rfl, hX.2⟩ hN hA hP hD hS [0] (wc := [(q0, .inr (3, [.null, .null, .null, .int 0, .int 0]))]) rfl (by decide) [.ref q0]
  refine va_callv (va_runI (As := []) (rest := [.ref q0]) ⟨hx, hb, hml, hown, hts⟩ (c_Desk_init q0 H.size) (cwI 0 hts (fun w h => ⟨(List.mem_cons.mp h).elim (fun e => by rw [e]; exact m_1_20) id, aw_good ((List.mem_cons.mp h).elim (fun e => by rw [e]; exact m_1_20) id)⟩) rfl rfl rfl (hts _ m_1_1) (hts _ m_1_18) (hts _ m_1_19) rfl (by decide +kernel) ⟨Nat.le_of_ble_eq_true rfl, Nat.le_of_ble_eq_true rfl⟩) hpc rfl rfl hl.1 rfl (lv_room (Nat.le_of_ble_eq_true rfl)) d_law_4 ⟨Nat.le_of_ble_eq_true rfl, Nat.le_of_ble_eq_true rfl⟩) hS (fun q _ h => hFc q h) hFc (fun u t H1 locs ht hvm hw hB hz1 hk1 hS => ?_)
  obtain ⟨eq_, hP1, hK1, hD1⟩ := hB
  subst eq_
  rw [ht] at hP1
  have hK1 := va_K.moved hvm.symm hK1
  obtain ⟨hP, hD⟩ := va_join (wr := []) (w1 := dkW u.1 u.2 d_0) hP hD [0] [] rfl rfl (by decide) (by decide) hk1 hFc hP1 hD1
  generalize H1 = H at hP hS ⊢
  have hX : hx_X D (tyH u.2) adK adV tF (fun q : Nat => s.heap.size ≤ q) s s.heap := ⟨hK1, hX.2⟩
  have hP : va_P D vwCl (dkW u.1 u.2 d_0) H := hP
  have hD : va_D (fun q : Nat => s.heap.size ≤ q) (dkW u.1 u.2 d_0) := hD
  refine lv_astore_n (lv' := [(1, .ref (u.1 8)), (0, .ref b)]) hx hb d_law_7 rfl hl (by decide) rfl (fun ls hl => ?_)
  refine va_new (ci := 4) (fs := [.int 0, .null, .int 0, .int 0, .int 0, .int 0, .int 0, .int 0, .int 0, .int 0, .int 0, .int 0, .int 0, .int 0, .int 0, .int 0, .int 0, .int 0, .int 0, .int 0, .null, .int 0, .int 0, .int 0, .int 0, .int 0, .int 0, .int 0, .int 0, .null, .null, .null, .null, .int 0, .int 0, .int 0, .int 0, .int 0]) (C := "HeadDeskModel") (T := F_Mod) (N := 38) hx hb hts a_Mod t_Mod k_Mod hown (hts _ m_2_211) (hts _ m_2_212) (hts _ m_1_5) hX.1 hP hD hS hA rfl (by decide +kernel) (Nat.le_of_ble_eq_true rfl) (Nat.le_of_ble_eq_true rfl) d_law_8 (fun q8 H hP hD hS => ?_)
  refine lv_dup hx hb d_law_11 rfl ?_
  have hFc := va_free (wc := [(q8, .inr (4, [.int 0, .null, .int 0, .int 0, .int 0, .int 0, .int 0, .int 0, .int 0, .int 0, .int 0, .int 0, .int 0, .int 0, .int 0, .int 0, .int 0, .int 0, .int 0, .int 0, .null, .int 0, .int 0, .int 0, .int 0, .int 0, .int 0, .int 0, .int 0, .null, .null, .null, .null, .int 0, .int 0, .int 0, .int 0, .int 0]))]) hD hS hA [12] rfl
  have hpc := hx_preN ⟨va_K.sub (tys' := []) hX.1 [] rfl, hX.2⟩ hN hA hP hD hS [12] (wc := [(q8, .inr (4, [.int 0, .null, .int 0, .int 0, .int 0, .int 0, .int 0, .int 0, .int 0, .int 0, .int 0, .int 0, .int 0, .int 0, .int 0, .int 0, .int 0, .int 0, .int 0, .int 0, .null, .int 0, .int 0, .int 0, .int 0, .int 0, .int 0, .int 0, .int 0, .null, .null, .null, .null, .int 0, .int 0, .int 0, .int 0, .int 0]))]) rfl (by decide) [.ref q8]
  refine va_callv (va_runI (As := []) (rest := [.ref q8]) ⟨hx, hb, hml, hown, hts⟩ (c_Mod_init q8 H.size) (cwI 0 hts (fun w h => ⟨(List.mem_cons.mp h).elim (fun e => by rw [e]; exact m_2_215) id, aw_good ((List.mem_cons.mp h).elim (fun e => by rw [e]; exact m_2_215) id)⟩) rfl rfl rfl (hts _ m_1_5) (hts _ m_2_213) (hts _ m_2_214) rfl (by decide +kernel) ⟨Nat.le_of_ble_eq_true rfl, Nat.le_of_ble_eq_true rfl⟩) hpc rfl rfl hl.1 rfl (lv_room (Nat.le_of_ble_eq_true rfl)) d_law_12 ⟨Nat.le_of_ble_eq_true rfl, Nat.le_of_ble_eq_true rfl⟩) hS (fun q _ h => hFc q h) hFc (fun v t H1 locs ht hvm hw hB hz1 hk1 hS => ?_)
  obtain ⟨eq_, hP1, hK1, hD1⟩ := hB
  subst eq_
  rw [ht] at hP1
  have hK1 := va_K.moved hvm.symm hK1
  obtain ⟨hP, hD⟩ := va_join (wr := dkW u.1 u.2 d_0) (w1 := mdW v.1 v.2 s_0) hP hD [12] [0, 1, 2, 3, 4, 5, 6, 7, 8, 9, 10, 11] rfl rfl (by decide) (by decide) hk1 hFc hP1 hD1
  generalize H1 = H at hP hS ⊢
  have hX : hx_X D (tyH u.2 ++ tyM v.2) adK adV tF (fun q : Nat => s.heap.size ≤ q) s s.heap := ⟨hX.1.app hK1, hX.2⟩
  refine lv_astore_n (lv' := [(2, .ref (v.1 0)), (1, .ref (u.1 8)), (0, .ref b)]) hx hb d_law_15 rfl hl (by decide) rfl (fun ls hl => ?_)
  refine lv_iconst (v := 1) hx hb d_law_16 (by decide) ?_
  refine va_newa (atype := .long) (a0 := (1, .inr (.inl (fun _ => 0)))) (N' := 1) (ty := .long) hx hb (hts _ m_3_228) rfl hX.1 hP hD hS hA (fun _ => rfl) (by decide) (by decide) (by decide) (Nat.le_of_ble_eq_true rfl) (Nat.le_of_ble_eq_true rfl) d_law_17 (fun q17 c17 H hK hP hD hS => ?_)
  have hX : hx_X D (lwT u.2 v.2 c17) adK adV tF (fun q : Nat => s.heap.size ≤ q) s s.heap := ⟨hK, hX.2⟩
  refine lv_astore_n (lv' := [(3, .ref q17), (2, .ref (v.1 0)), (1, .ref (u.1 8)), (0, .ref b)]) hx hb d_law_19 rfl hl (by decide) rfl (fun ls hl => ?_)
  refine lv_iconst (v := 0) hx hb d_law_20 (by decide) ?_
  refine lv_istore (lv' := [(4, .int 0), (3, .ref q17), (2, .ref (v.1 0)), (1, .ref (u.1 8)), (0, .ref b)]) hx hb d_law_21 hl (by decide) rfl (fun ls hl => ?_)
  refine W.widen (k := 20 + 0) (n := 1247 + 6 * 0) (by decide) (by decide) ?_
  exact law_loop hst hL C0 hN v.1 v.2 q17 c17 (L + 1) 0 u.1 u.2 d_0 s_0 (fun _ => 0) H _ ls (by omega) (by omega) rel_0 hX hP hD hS (lv_sub hl [0, 4, 3, 2, 1] rfl)
