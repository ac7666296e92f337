/-- System.arraycopy of the whole given table of 18 ints over an array of 18 ints of the world (my own row, over the library's law of arraycopy) -/
theorem hx_copy18 {p : Program} {l : Launch} {e : Env} {R : Room} {s : State} {m : MethodId} {args : Array Value} {below : List Frame} {meth : Method} {c : Code} {H : Heap} {locs : List Loc} {cells slots : Nat} {Q : State → Prop} {cc : ByteArray} {pc : Nat} {ls : Array Slot} {rest : List Value} {D : va_G} {A : Nat → Prop} {a : Nat} {tys : List (ClassId × FieldType)} {w0 : va_W} {own : String} {index b0 : Nat} {f g : Nat → Int32} {c1 : ClassId}
    (hx : p.tables.exec = Jvm.exec) (hb : c.code = cc) (hml : c.maxLocals = ls.size) (hown : s.vm.findClass own = some m.cls) (hlink : (Cond.methodLink own index arraycopyName).before args s = true) (hnat : (Cond.native arraycopyName).before args s = true) (hstat : (Cond.static arraycopyName).before args s = true) (hini : (Cond.initialized "java/lang/System").before args s = true)
    (hK : va_K D vwCl tys s) (hP : va_P D vwCl w0 H) (hD : va_D A w0) (hS : va_S A s.heap H locs) (hT0 : va_T .int b0 18 (fun j => .int (f j)) A s s.heap) (q1 t1 : Nat) (ha1 : w0[q1]? = some (a, .inl (c1, 18, .inl g))) (ht1 : tys[t1]? = some (c1, .int))
    (hframes : 1 ≤ R.frames) (hlocals : (rest.map fun v => v.category).sum + (nativeFrameWords "java/lang/System" "arraycopy" 5 + 11) ≤ R.locals) (hdg : decode cc pc = .ok (.invokestatic index, 3))
    (kk : ∀ (H1 : Heap) (locs1 : List Loc), va_P D vwCl (w0.set q1 (a, .inl (c1, 18, .inl (va_cpy f g 0 0 18)))) H1 → va_D A (w0.set q1 (a, .inl (c1, 18, .inl (va_cpy f g 0 0 18)))) → va_S A s.heap H1 locs1 → W p l e R s m args below meth c H1 locs1 cells slots Q (F0 m (pc + 3) ls rest)) :
    W p l e R s m args below meth c H locs cells slots Q (F0 m pc ls (.int 18 :: .int 0 :: .ref a :: .int 0 :: .ref b0 :: rest)) := by
  intro T hT X
  obtain ⟨src, g1, g2, g3, g4, -, g5, g6⟩ := hT0
  have hsrc : H[b0]? = some src := (hS.2.1 b0 (Array.getElem?_eq_some_iff.mp g1).1 g6).trans g1
  have hdst : H[a]? = some (vp_cell c1 (18, .inl g)) := hP q1 _ ha1
  obtain ⟨u1, k0, u2, m0, u3⟩ := g2
  obtain ⟨-, k1, v2, m1, v3⟩ := (hK.2 t1 _ ht1).1 18 (fun j => .int (g j))
  obtain ⟨vm', X', step⟩ := X.arraycopy hx hown hlink hnat hstat hini (src := b0) (dst := a) (cs := src) (cd := vp_cell c1 (18, .inl g)) (srcPos := 0) (destPos := 0) (n := 18) (by rw [hT]; exact hsrc) (by rw [hT]; exact hdst)
    u1 (fun _ h => by cases h) g3 (fun h => by cases h) u2 v2 u3 v3 (by simp [refKind]) (by decide) (by decide) (by decide)
    (by show ¬ (18 : Int) > (src.slots.size : Int); omega)
    (by show ¬ (18 : Int) > ((arrV c1 18 (fun j => .int (g j))).slots.size : Int); rw [arrV_size]; omega)
    (fun _ _ i hi => by
      have hi' : i < 18 := hi
      have e0 : src.slots.getD ((0 : Int32).toNatClampNeg + i) .null = .int (f i) := by
        rw [show (0 : Int32).toNatClampNeg + i = i from Nat.zero_add i, Array.getD_eq_getD_getElem?, g5 i hi']
        rfl
      rw [e0]
      exact ⟨rfl, trivial⟩)
    (g := F0 m pc ls (.int 18 :: .int 0 :: .ref a :: .int 0 :: .ref b0 :: rest)) rfl (by rw [hml]) (rest := rest) rfl (by rw [hb]; exact hdg) hframes (by show 2 * 0 + _ + _ ≤ _; omega)
  have ec : copied src (vp_cell c1 (18, .inl g)) 0 0 18 = vp_cell c1 (18, .inl (va_cpy f g 0 0 18)) := va_copiedX (fun z => .int z) src c1 f g g5 (sp := 0) (dp := 0) (n := 18) (by decide)
  rw [ec] at X' step
  generalize hce : vp_cell c1 (18, .inl (va_cpy f g 0 0 18)) = ce at X' step
  have hlt : a < H.size := (Array.getElem?_eq_some_iff.mp hdst).1
  have hheap : ((T.setVm vm').setCell a ce).heap = H.setIfInBounds a ce := by rw [← hT]; rfl
  have other : ∀ q : Nat, q ≠ a → (H.setIfInBounds a ce)[q]? = H[q]? := fun q hq => by simp [Array.getElem?_setIfInBounds, Ne.symm hq]
  have hAa : A a := hD.2 q1 _ ha1
  have hself : (H.setIfInBounds a ce)[a]? = some (vp_cell c1 (18, .inl (va_cpy f g 0 0 18))) := by rw [hce]; simp [Array.getElem?_setIfInBounds, hlt]
  obtain ⟨t, a1, b1⟩ := kk _ _ (hP.set hD ha1 hself other) (hD.set ha1) ⟨by simp; exact hS.1, fun q z1 z2 => by
      rw [other q (fun h => z2 (h ▸ hAa))]
      exact hS.2.1 q z1 z2, fun q hq => by
      rcases List.mem_append.mp hq with h | h
      · exact hS.2.2 q h
      · obtain ⟨z, -, hz⟩ := List.mem_map.mp h
        rw [← hz]
        exact hAa⟩ _ hheap X'
  exact ⟨t, step t a1, b1⟩
