/-! MY FRAME: contracts of one form, one row for a call, one row for a return -/
theorem hx_fm {α β : Type} {f : α → Option β} : ∀ (is : List α) (L : List β), is.map f = L.map some → is.filterMap f = L := by
  intro is
  induction is with
  | nil => intro L h; cases L with | nil => rfl | cons b L => cases h
  | cons a is ih =>
    intro L h
    cases L with
    | nil => cases h
    | cons b L =>
      simp only [List.map_cons, List.cons.injEq] at h
      rw [List.filterMap_cons, h.1]
      simp only [ih L h.2]
/-- the literals, by their places (two places may be one object) -/
def hx_S (adK adV : Nat → Nat) (A : Nat → Prop) (U : State) (H : Heap) : Prop := ∀ i : Nat, i < nJS → va_O "java/lang/String" (adK i) A U H ∧ va_OF "java/lang/String" "coder" "B" (.int 0) (adK i) A U H ∧ va_OF "java/lang/String" "value" "[B" (.ref (adV i)) (adK i) A U H ∧ va_T .byte (adV i) (lenJS.getD i 0) (fun j => .int ((bytJS.getD i []).getD j 0)) A U H
theorem hx_S.moved {adK adV : Nat → Nat} {A : Nat → Prop} {u U : State} {H : Heap} (hvm : u.vm.Alike U.vm) (h : hx_S adK adV A u H) : hx_S adK adV A U H := fun i hi => ⟨va_O.moved hvm (h i hi).1, va_OF.moved hvm (h i hi).2.1, va_OF.moved hvm (h i hi).2.2.1, va_T.moved hvm (h i hi).2.2.2⟩
theorem hx_S.kept {adK adV : Nat → Nat} {A : Nat → Prop} {U : State} {H H1 : Heap} (h : hx_S adK adV A U H) (hq : ∀ a : Nat, a < H.size → ¬ A a → H1[a]? = H[a]?) : hx_S adK adV A U H1 := fun i hi => ⟨(h i hi).1.kept hq, (h i hi).2.1.kept hq, (h i hi).2.2.1.kept hq, (h i hi).2.2.2.kept hq⟩
theorem hx_S.narrow {adK adV : Nat → Nat} {A B : Nat → Prop} {U : State} {H : Heap} (h : hx_S adK adV A U H) (hAB : ∀ q, B q → A q) : hx_S adK adV B U H := fun i hi => ⟨(h i hi).1.narrow hAB, (h i hi).2.1.narrow hAB, (h i hi).2.2.1.narrow hAB, (h i hi).2.2.2.narrow hAB⟩
/-- what a method relies on and never changes: the classes, the literals, the given statics -/
def hx_X (D : va_G) (tys : List (ClassId × FieldType)) (adK adV : Nat → Nat) (tF : Nat) (A : Nat → Prop) (U : State) (H : Heap) : Prop :=
  va_K D vwCl tys U ∧ hx_S adK adV A U H ∧ va_Z "HeadDesk$Head" "AT_FIRST" "[I" (.ref tF) A U H ∧ va_T .int tF 18 (fun k => .int (at0 k)) A U H ∧ va_Z "java/lang/String" "COMPACT_STRINGS" "Z" (.int 1) A U H ∧ (∀ (own : String) (k : Nat) (tx : String) (i : Nat), (own, k, tx, i) ∈ hx_strs → vk_R own k tx (adK i) U) ∧ va_Zq "jdk/internal/util/Preconditions" "SIOOBE_FORMATTER" "Ljava/util/function/BiFunction;" A U H ∧ vx_Zq Bundle.tN "UNASSIGNED_STACK" Bundle.steD A U H ∧ vx_Zq Bundle.tN "SUPPRESSED_SENTINEL" Bundle.listD A U H
theorem hx_X.call {D : va_G} {tys : List (ClassId × FieldType)} {adK adV : Nat → Nat} {tF : Nat} {A A' : Nat → Prop} {s U : State} {H : Heap} {locs : List Loc} (h : hx_X D tys adK adV tF A s s.heap) (hS : va_S A s.heap H locs) (hAB : ∀ q, A' q → A q) (hU : U.heap = H) (hW : s.WarmedH U.vm) : hx_X D tys adK adV tF A' U U.heap := by
  obtain ⟨hK, hE, hZ, hT, hZ2, hR, hQ, hV, hN⟩ := h
  rw [hU]
  exact ⟨va_K.moved hW.alike hK, (hx_S.moved hW.alike (hE.kept hS.2.1)).narrow hAB, (va_Z.moved hW.alike (hZ.kept hS.2.1)).narrow hAB, (va_T.moved hW.alike (hT.kept hS.2.1)).narrow hAB, (va_Z.moved hW.alike (hZ2.kept hS.2.1)).narrow hAB, fun own k tx i hq => (hR own k tx i hq).warm hW, (va_Zq.moved hW.alike (hQ.kept hS.2.1)).narrow hAB, (vx_Zq.moved hW.alike (hV.kept hS.2.1)).narrow hAB, (vx_Zq.moved hW.alike (hN.kept hS.2.1)).narrow hAB⟩
theorem hx_X.blind {D : va_G} {tys : List (ClassId × FieldType)} {adK adV : Nat → Nat} {tF : Nat} {A : Nat → Prop} {U : State} (h : hx_X D tys adK adV tF A U U.heap) (g : JFrame) (mk : MethodId) (a : Array Value) : hx_X D tys adK adV tF A (U.calling g mk a) (U.calling g mk a).heap := by
  obtain ⟨hK, hE, hZ, hT, hZ2, hR, hQ, hV, hN⟩ := h
  have hv : U.vm.Alike (U.calling g mk a).vm := Vm.Alike.refl U.vm
  exact ⟨va_K.moved hv hK, hx_S.moved hv hE, va_Z.moved hv hZ, va_T.moved hv hT, va_Z.moved hv hZ2, fun own k tx i hq => (hR own k tx i hq).same rfl, va_Zq.moved hv hQ, vx_Zq.moved hv hV, vx_Zq.moved hv hN⟩
def hx_Pc (D : va_G) (tys : List (ClassId × FieldType)) (adK adV : Nat → Nat) (tF : Nat) (w0 : va_W) (As : List Value) (sz : Nat) : Array Value → State → Prop := va_Pc As (fun U => U.heap.size = sz ∧ va_P D vwCl w0 U.heap ∧ hx_X D tys adK adV tF (va_A w0 sz) U U.heap ∧ va_D (fun _ => True) w0)
def hx_B {S : Type} (D : va_G) (wd : S → va_W) (A : Nat → Prop) : S → State → Prop := fun u t => va_P D vwCl (wd u) t.heap ∧ va_D A (wd u)
/-- a method that answers an int (or a boolean) and makes nothing -/
def hx_Mi {S : Type} (l : Launch) (D : va_G) (tys : List (ClassId × FieldType)) (adK adV : Nat → Nat) (tF : Nat) (wd : S → va_W) (y : MethodName) (ws : List Cond) (rm : Room) (As : List Value) (u0 : S) (v1 : Int32) (u1 : S) : Prop :=
  ∀ sz : Nat, Met l y ws rm (hx_Pc D tys adK adV tF (wd u0) As sz) (va_Qi (fun r u => r = v1 ∧ u = u1) (hx_B D wd (va_A (wd u0) sz)) (va_A (wd u0) sz)) 0 0 (va_A (wd u0) sz)
/-- .. a boolean -/
def hx_Mz {S : Type} (l : Launch) (D : va_G) (tys : List (ClassId × FieldType)) (adK adV : Nat → Nat) (tF : Nat) (wd : S → va_W) (y : MethodName) (ws : List Cond) (rm : Room) (As : List Value) (u0 : S) (b1 : Bool) (u1 : S) : Prop :=
  ∀ sz : Nat, Met l y ws rm (hx_Pc D tys adK adV tF (wd u0) As sz) (va_Qi (fun r u => r = bI b1 ∧ u = u1) (hx_B D wd (va_A (wd u0) sz)) (va_A (wd u0) sz)) 0 0 (va_A (wd u0) sz)
/-- .. that answers nothing -/
def hx_Mv {S : Type} (l : Launch) (D : va_G) (tys : List (ClassId × FieldType)) (adK adV : Nat → Nat) (tF : Nat) (wd : S → va_W) (y : MethodName) (ws : List Cond) (rm : Room) (As : List Value) (u0 : S) (u1 : S) : Prop :=
  ∀ sz : Nat, Met l y ws rm (hx_Pc D tys adK adV tF (wd u0) As sz) (va_Qv (fun u => u = u1) (hx_B D wd (va_A (wd u0) sz)) (va_A (wd u0) sz)) 0 0 (va_A (wd u0) sz)
section HXF
variable {p : Program} {l : Launch} {e : Env} {R : Room} {s : State} {m : MethodId} {args : Array Value} {below : List Frame} {meth : Method} {c : Code} {H : Heap} {locs : List Loc} {cells slots : Nat} {Q : State → Prop}
variable {D : va_G} {tys : List (ClassId × FieldType)} {adK adV : Nat → Nat} {tF : Nat} {A : Nat → Prop} {S : Type} {wd : S → va_W} {u0 : S} {y : MethodName} {ws ws' : List Cond} {rm : Room} {As : List Value} {cc : ByteArray} {maxL : Nat} {ret : Option FieldType}
/-- what stands at a method's start -/
abbrev hx_In (p : Program) (s : State) (m : MethodId) (args : Array Value) (c : Code) (cc : ByteArray) (maxL : Nat) (own : String) (ws : List Cond) : Prop := CallFix p m c cc maxL s args ws own
theorem hx_Mi.of {v1 : Int32} {u1 : S} {ty : FieldType} (hna : narrow ty (.int v1) = .int v1) (hy : plainName y.cls = true) (hw : ws = Cond.code y cc maxL (some ty) :: ws') (hml : (lg_sl As).length ≤ maxL)
    (body : ∀ (p : Program) (e : Env) (s : State) (m : MethodId) (below : List Frame) (meth : Method) (c : Code) (A : Nat → Prop) (Q : State → Prop) (ls : Array Slot), hx_In p s m As.toArray c cc maxL y.cls ws → hx_X D tys adK adV tF A s s.heap → (∀ q : Nat, s.heap.size ≤ q → A q) → va_P D vwCl (wd u0) s.heap → va_D A (wd u0) → va_S A s.heap s.heap [] → lv_has ls maxL (lv_args 0 As) →
      (∀ (H : Heap) (locs : List Loc) (u : S) (v : Int32) (pc : Nat) (ls : Array Slot), va_P D vwCl (wd u) H → va_D A (wd u) → va_S A s.heap H locs → v1 = v ∧ u1 = u → decode cc pc = .ok (.ireturn, 1) → W p l e rm s m As.toArray below meth c H locs 0 0 Q (F0 m pc ls [.int v])) →
      W p l e rm s m As.toArray below meth c s.heap [] 0 0 Q (F0 m 0 ls [])) : hx_Mi l D tys adK adV tF wd y ws rm As u0 v1 u1 := by
  intro sz
  refine Met.ofW (cc := cc) (maxL := maxL) (ret := some ty) hy hw ?_
  intro p e s m args below meth c s₁ B hm hv
  obtain ⟨rfl, hsz, hP, hX, hD0⟩ := hv
  subst hsz
  have hl := lv_entry As (n := maxL) hml
  rw [lg_entry_eq]
  refine body p e s m below meth c (va_A (wd u0) s.heap.size) _ _ ⟨B.exec, B.bytes, hm, findClass_of_methodNamed B.named, atoms_spec (ws := ws) B.pre⟩ hX (fun q h => Or.inr h) hP hD0.self va_S.rf hl ?_
  intro H locs u v pc ls hP hD hS hF hdg
  obtain ⟨rfl, rfl⟩ := hF
  exact W.zret (v := v1) B.exec B.bytes B.returns hna (fun t ht hW => ⟨⟨v1, u1, rfl, ⟨rfl, rfl⟩, by rw [ht]; exact hP, hD⟩, hS.F ht⟩) hS.2.2 hdg B.notSynchronized
theorem hx_Mz.of {b1 : Bool} {u1 : S} (hy : plainName y.cls = true) (hw : ws = Cond.code y cc maxL (some .boolean) :: ws') (hml : (lg_sl As).length ≤ maxL)
    (body : ∀ (p : Program) (e : Env) (s : State) (m : MethodId) (below : List Frame) (meth : Method) (c : Code) (A : Nat → Prop) (Q : State → Prop) (ls : Array Slot), hx_In p s m As.toArray c cc maxL y.cls ws → hx_X D tys adK adV tF A s s.heap → (∀ q : Nat, s.heap.size ≤ q → A q) → va_P D vwCl (wd u0) s.heap → va_D A (wd u0) → va_S A s.heap s.heap [] → lv_has ls maxL (lv_args 0 As) →
      (∀ (H : Heap) (locs : List Loc) (u : S) (b : Bool) (pc : Nat) (ls : Array Slot), va_P D vwCl (wd u) H → va_D A (wd u) → va_S A s.heap H locs → b1 = b ∧ u1 = u → decode cc pc = .ok (.ireturn, 1) → W p l e rm s m As.toArray below meth c H locs 0 0 Q (F0 m pc ls [.int (bI b)])) →
      W p l e rm s m As.toArray below meth c s.heap [] 0 0 Q (F0 m 0 ls [])) : hx_Mz l D tys adK adV tF wd y ws rm As u0 b1 u1 := by
  intro sz
  refine Met.ofW (cc := cc) (maxL := maxL) (ret := some .boolean) hy hw ?_
  intro p e s m args below meth c s₁ B hm hv
  obtain ⟨rfl, hsz, hP, hX, hD0⟩ := hv
  subst hsz
  have hl := lv_entry As (n := maxL) hml
  rw [lg_entry_eq]
  refine body p e s m below meth c (va_A (wd u0) s.heap.size) _ _ ⟨B.exec, B.bytes, hm, findClass_of_methodNamed B.named, atoms_spec (ws := ws) B.pre⟩ hX (fun q h => Or.inr h) hP hD0.self va_S.rf hl ?_
  intro H locs u b pc ls hP hD hS hF hdg
  obtain ⟨rfl, rfl⟩ := hF
  exact W.zret (v := bI b1) B.exec B.bytes B.returns (bI_nar b1) (fun t ht hW => ⟨⟨bI b1, u1, rfl, ⟨rfl, rfl⟩, by rw [ht]; exact hP, hD⟩, hS.F ht⟩) hS.2.2 hdg B.notSynchronized
theorem hx_Mv.of {u1 : S} (hy : plainName y.cls = true) (hw : ws = Cond.code y cc maxL none :: ws') (hml : (lg_sl As).length ≤ maxL)
    (body : ∀ (p : Program) (e : Env) (s : State) (m : MethodId) (below : List Frame) (meth : Method) (c : Code) (A : Nat → Prop) (Q : State → Prop) (ls : Array Slot), hx_In p s m As.toArray c cc maxL y.cls ws → hx_X D tys adK adV tF A s s.heap → (∀ q : Nat, s.heap.size ≤ q → A q) → va_P D vwCl (wd u0) s.heap → va_D A (wd u0) → va_S A s.heap s.heap [] → lv_has ls maxL (lv_args 0 As) →
      (∀ (H : Heap) (locs : List Loc) (u : S) (pc : Nat) (ls : Array Slot), va_P D vwCl (wd u) H → va_D A (wd u) → va_S A s.heap H locs → u1 = u → decode cc pc = .ok (.return_, 1) → W p l e rm s m As.toArray below meth c H locs 0 0 Q (F0 m pc ls [])) →
      W p l e rm s m As.toArray below meth c s.heap [] 0 0 Q (F0 m 0 ls [])) : hx_Mv l D tys adK adV tF wd y ws rm As u0 u1 := by
  intro sz
  refine Met.ofW (cc := cc) (maxL := maxL) (ret := none) hy hw ?_
  intro p e s m args below meth c s₁ B hm hv
  obtain ⟨rfl, hsz, hP, hX, hD0⟩ := hv
  subst hsz
  have hl := lv_entry As (n := maxL) hml
  rw [lg_entry_eq]
  refine body p e s m below meth c (va_A (wd u0) s.heap.size) _ _ ⟨B.exec, B.bytes, hm, findClass_of_methodNamed B.named, atoms_spec (ws := ws) B.pre⟩ hX (fun q h => Or.inr h) hP hD0.self va_S.rf hl ?_
  intro H locs u pc ls hP hD hS hF hdg
  obtain rfl := hF
  exact W.vret B.exec B.bytes B.returns (fun t ht hW => ⟨⟨u1, rfl, rfl, by rw [ht]; exact hP, hD⟩, hS.F ht⟩) hS.2.2 hdg B.notSynchronized
theorem hx_top {v w : Int32} {pc : Nat} {ls : Array Slot} {rest : List Value} (h : w = v) (k : W p l e R s m args below meth c H locs cells slots Q (F0 m pc ls (.int v :: rest))) : W p l e R s m args below meth c H locs cells slots Q (F0 m pc ls (.int w :: rest)) := h ▸ k
/-- what a call brings with it -/
theorem hx_pre {w0 wc : va_W} (hX : hx_X D tys adK adV tF A s s.heap) (hA : ∀ q : Nat, s.heap.size ≤ q → A q) (hP : va_P D vwCl w0 H) (hD : va_D A w0) (hS : va_S A s.heap H locs) (isC : List Nat) (hC : isC.map (fun i => w0[i]?) = wc.map some) (hn : va_nd isC = true) (As : List Value) :
    FrameBlind (hx_Pc D tys adK adV tF wc As H.size) ∧ ∀ U : State, U.heap = H → s.WarmedH U.vm → hx_Pc D tys adK adV tF wc As H.size As.toArray U := by
  refine ⟨fun a U g mk q => ?_, fun U hU hW => ?_⟩
  · obtain ⟨q0, q1, qP, qX, qD⟩ := q
    exact ⟨q0, q1, qP, qX.blind g mk a, qD⟩
  · refine ⟨rfl, by rw [hU], ?_, hX.call hS (va_free hD hS hA isC hC) hU hW, (hD.sub isC hn hC).weaken (fun _ _ _ _ => trivial)⟩
    rw [hU]
    exact hP.sub isC (hx_fm isC wc hC)
variable {bytes : ByteArray} {nL n index pc : Nat} {Ts : List Cond} {own C : String} {b : Addr} {rest st0 : List Value} {ls : Array Slot} {w0 wr : va_W}
/-- a call, with the callee's cells at isC, the others at isR -/
theorem hx_ci {v : Int32} {u1 : S} {a : Array Value} (hA : ∀ q : Nat, s.heap.size ≤ q → A q) (hP : va_P D vwCl w0 H) (hD : va_D A w0) (hS : va_S A s.heap H locs) (isC isR : List Nat) (hC : isC.map (fun i => w0[i]?) = (wd u0).map some) (hR : isR.map (fun i => w0[i]?) = wr.map some) (hnR : va_nd isR = true) (hdis : ∀ i ∈ isR, i ∉ isC)
    (hr : va_Run p l e R s m args below meth c H locs cells slots 0 0 (F0 m pc ls st0) rest (va_Qi (fun r u => r = v ∧ u = u1) (hx_B D wd (va_A (wd u0) H.size)) (va_A (wd u0) H.size) a) (va_A (wd u0) H.size))
    (kk : ∀ (H1 : Heap) (locs1 : List Loc), va_P D vwCl (wr ++ wd u1) H1 → va_D A (wr ++ wd u1) → va_S A s.heap H1 locs1 → W p l e R s m args below meth c H1 locs1 cells slots Q (F0 m (pc + 3) ls (.int v :: rest))) : W p l e R s m args below meth c H locs cells slots Q (F0 m pc ls st0) := by
  have hFc := va_free hD hS hA isC hC
  refine va_calli hr hS (fun q _ h => hFc q h) hFc (fun r u t H1 locs1 ht hvm hw hB hz1 hk1 hS1 => ?_)
  obtain ⟨rfl, rfl⟩ := hw
  obtain ⟨hP1, hD1⟩ := hB
  rw [ht] at hP1
  obtain ⟨hP2, hD2⟩ := va_join hP hD isC isR hC hR hnR hdis hk1 hFc hP1 hD1
  exact kk H1 locs1 hP2 hD2 hS1
theorem hx_cv {u1 : S} {a : Array Value} (hA : ∀ q : Nat, s.heap.size ≤ q → A q) (hP : va_P D vwCl w0 H) (hD : va_D A w0) (hS : va_S A s.heap H locs) (isC isR : List Nat) (hC : isC.map (fun i => w0[i]?) = (wd u0).map some) (hR : isR.map (fun i => w0[i]?) = wr.map some) (hnR : va_nd isR = true) (hdis : ∀ i ∈ isR, i ∉ isC)
    (hr : va_Run p l e R s m args below meth c H locs cells slots 0 0 (F0 m pc ls st0) rest (va_Qv (fun u => u = u1) (hx_B D wd (va_A (wd u0) H.size)) (va_A (wd u0) H.size) a) (va_A (wd u0) H.size))
    (kk : ∀ (H1 : Heap) (locs1 : List Loc), va_P D vwCl (wr ++ wd u1) H1 → va_D A (wr ++ wd u1) → va_S A s.heap H1 locs1 → W p l e R s m args below meth c H1 locs1 cells slots Q (F0 m (pc + 3) ls rest)) : W p l e R s m args below meth c H locs cells slots Q (F0 m pc ls st0) := by
  have hFc := va_free hD hS hA isC hC
  refine va_callv hr hS (fun q _ h => hFc q h) hFc (fun u t H1 locs1 ht hvm hw hB hz1 hk1 hS1 => ?_)
  obtain rfl := hw
  obtain ⟨hP1, hD1⟩ := hB
  rw [ht] at hP1
  obtain ⟨hP2, hD2⟩ := va_join hP hD isC isR hC hR hnR hdis hk1 hFc hP1 hD1
  exact kk H1 locs1 hP2 hD2 hS1
theorem hx_Vi {v1 : Int32} {u1 : S} (hI : hx_In p s m args c cc nL own Ts) (hM : hx_Mi l D tys adK adV tF wd y ws rm (.ref b :: As) u0 v1 u1) (cw : CallW R s args own C index y bytes maxL ret ws rm 0 0 n) (hX : hx_X D tys adK adV tF A s s.heap) (hA : ∀ q : Nat, s.heap.size ≤ q → A q) (hP : va_P D vwCl w0 H) (hD : va_D A w0) (hS : va_S A s.heap H locs) (isC isR : List Nat) (hC : isC.map (fun i => w0[i]?) = (wd u0).map some) (hR : isR.map (fun i => w0[i]?) = wr.map some) (hnC : va_nd isC = true) (hnR : va_nd isR = true) (hdis : ∀ i ∈ isR, i ∉ isC)
    (hrc : ∃ cellB : Cell, H[b]? = some cellB ∧ cellB.vm.isStatics = false ∧ s.vm.findClass C = some cellB.cls) (hn : As.length = n) (hsz : ls.size = nL) (hst : st0 = As.reverse ++ .ref b :: rest) (hW : (rest.map fun v => v.category).sum ≤ 8) (hdg : decode cc pc = .ok (.invokevirtual index, 3)) (hf : cells ≤ R.cells ∧ slots ≤ R.slots)
    (kk : ∀ (H1 : Heap) (locs1 : List Loc), va_P D vwCl (wr ++ wd u1) H1 → va_D A (wr ++ wd u1) → va_S A s.heap H1 locs1 → W p l e R s m args below meth c H1 locs1 cells slots Q (F0 m (pc + 3) ls (.int v1 :: rest))) : W p l e R s m args below meth c H locs cells slots Q (F0 m pc ls st0) :=
  hx_ci hA hP hD hS isC isR hC hR hnR hdis (va_runV hI (hM H.size) cw ⟨(hx_pre hX hA hP hD hS isC hC hnC (.ref b :: As)).1, hrc, (hx_pre hX hA hP hD hS isC hC hnC (.ref b :: As)).2⟩ rfl hn hsz hst (lv_room hW) hdg hf) kk
theorem hx_Vz {b1 : Bool} {u1 : S} (hI : hx_In p s m args c cc nL own Ts) (hM : hx_Mz l D tys adK adV tF wd y ws rm (.ref b :: As) u0 b1 u1) (cw : CallW R s args own C index y bytes maxL ret ws rm 0 0 n) (hX : hx_X D tys adK adV tF A s s.heap) (hA : ∀ q : Nat, s.heap.size ≤ q → A q) (hP : va_P D vwCl w0 H) (hD : va_D A w0) (hS : va_S A s.heap H locs) (isC isR : List Nat) (hC : isC.map (fun i => w0[i]?) = (wd u0).map some) (hR : isR.map (fun i => w0[i]?) = wr.map some) (hnC : va_nd isC = true) (hnR : va_nd isR = true) (hdis : ∀ i ∈ isR, i ∉ isC)
    (hrc : ∃ cellB : Cell, H[b]? = some cellB ∧ cellB.vm.isStatics = false ∧ s.vm.findClass C = some cellB.cls) (hn : As.length = n) (hsz : ls.size = nL) (hst : st0 = As.reverse ++ .ref b :: rest) (hW : (rest.map fun v => v.category).sum ≤ 8) (hdg : decode cc pc = .ok (.invokevirtual index, 3)) (hf : cells ≤ R.cells ∧ slots ≤ R.slots)
    (kk : ∀ (H1 : Heap) (locs1 : List Loc), va_P D vwCl (wr ++ wd u1) H1 → va_D A (wr ++ wd u1) → va_S A s.heap H1 locs1 → W p l e R s m args below meth c H1 locs1 cells slots Q (F0 m (pc + 3) ls (.int (bI b1) :: rest))) : W p l e R s m args below meth c H locs cells slots Q (F0 m pc ls st0) :=
  hx_ci hA hP hD hS isC isR hC hR hnR hdis (va_runV hI (hM H.size) cw ⟨(hx_pre hX hA hP hD hS isC hC hnC (.ref b :: As)).1, hrc, (hx_pre hX hA hP hD hS isC hC hnC (.ref b :: As)).2⟩ rfl hn hsz hst (lv_room hW) hdg hf) kk
theorem hx_Vv {u1 : S} (hI : hx_In p s m args c cc nL own Ts) (hM : hx_Mv l D tys adK adV tF wd y ws rm (.ref b :: As) u0 u1) (cw : CallW R s args own C index y bytes maxL ret ws rm 0 0 n) (hX : hx_X D tys adK adV tF A s s.heap) (hA : ∀ q : Nat, s.heap.size ≤ q → A q) (hP : va_P D vwCl w0 H) (hD : va_D A w0) (hS : va_S A s.heap H locs) (isC isR : List Nat) (hC : isC.map (fun i => w0[i]?) = (wd u0).map some) (hR : isR.map (fun i => w0[i]?) = wr.map some) (hnC : va_nd isC = true) (hnR : va_nd isR = true) (hdis : ∀ i ∈ isR, i ∉ isC)
    (hrc : ∃ cellB : Cell, H[b]? = some cellB ∧ cellB.vm.isStatics = false ∧ s.vm.findClass C = some cellB.cls) (hn : As.length = n) (hsz : ls.size = nL) (hst : st0 = As.reverse ++ .ref b :: rest) (hW : (rest.map fun v => v.category).sum ≤ 8) (hdg : decode cc pc = .ok (.invokevirtual index, 3)) (hf : cells ≤ R.cells ∧ slots ≤ R.slots)
    (kk : ∀ (H1 : Heap) (locs1 : List Loc), va_P D vwCl (wr ++ wd u1) H1 → va_D A (wr ++ wd u1) → va_S A s.heap H1 locs1 → W p l e R s m args below meth c H1 locs1 cells slots Q (F0 m (pc + 3) ls (rest))) : W p l e R s m args below meth c H locs cells slots Q (F0 m pc ls st0) :=
  hx_cv hA hP hD hS isC isR hC hR hnR hdis (va_runV hI (hM H.size) cw ⟨(hx_pre hX hA hP hD hS isC hC hnC (.ref b :: As)).1, hrc, (hx_pre hX hA hP hD hS isC hC hnC (.ref b :: As)).2⟩ rfl hn hsz hst (lv_room hW) hdg hf) kk
theorem hx_Si {v1 : Int32} {u1 : S} (hI : hx_In p s m args c cc nL own Ts) (hM : hx_Mi l D tys adK adV tF wd y ws rm As u0 v1 u1) (cw : CallB R s args own index y bytes maxL ret ws rm 0 0 n ∧ (Cond.static y).before args s = true) (hX : hx_X D tys adK adV tF A s s.heap) (hA : ∀ q : Nat, s.heap.size ≤ q → A q) (hP : va_P D vwCl w0 H) (hD : va_D A w0) (hS : va_S A s.heap H locs) (isC isR : List Nat) (hC : isC.map (fun i => w0[i]?) = (wd u0).map some) (hR : isR.map (fun i => w0[i]?) = wr.map some) (hnC : va_nd isC = true) (hnR : va_nd isR = true) (hdis : ∀ i ∈ isR, i ∉ isC)
    (hn : As.length = n) (hsz : ls.size = nL) (hst : st0 = As.reverse ++ rest) (hW : (rest.map fun v => v.category).sum ≤ 8) (hdg : decode cc pc = .ok (.invokestatic index, 3)) (hf : cells ≤ R.cells ∧ slots ≤ R.slots)
    (kk : ∀ (H1 : Heap) (locs1 : List Loc), va_P D vwCl (wr ++ wd u1) H1 → va_D A (wr ++ wd u1) → va_S A s.heap H1 locs1 → W p l e R s m args below meth c H1 locs1 cells slots Q (F0 m (pc + 3) ls (.int v1 :: rest))) : W p l e R s m args below meth c H locs cells slots Q (F0 m pc ls st0) :=
  hx_ci hA hP hD hS isC isR hC hR hnR hdis (va_runS hI (hM H.size) cw ⟨(hx_pre hX hA hP hD hS isC hC hnC As).1, (hx_pre hX hA hP hD hS isC hC hnC As).2⟩ rfl hn hsz hst (lv_room hW) hdg hf) kk
theorem hx_Sz {b1 : Bool} {u1 : S} (hI : hx_In p s m args c cc nL own Ts) (hM : hx_Mz l D tys adK adV tF wd y ws rm As u0 b1 u1) (cw : CallB R s args own index y bytes maxL ret ws rm 0 0 n ∧ (Cond.static y).before args s = true) (hX : hx_X D tys adK adV tF A s s.heap) (hA : ∀ q : Nat, s.heap.size ≤ q → A q) (hP : va_P D vwCl w0 H) (hD : va_D A w0) (hS : va_S A s.heap H locs) (isC isR : List Nat) (hC : isC.map (fun i => w0[i]?) = (wd u0).map some) (hR : isR.map (fun i => w0[i]?) = wr.map some) (hnC : va_nd isC = true) (hnR : va_nd isR = true) (hdis : ∀ i ∈ isR, i ∉ isC)
    (hn : As.length = n) (hsz : ls.size = nL) (hst : st0 = As.reverse ++ rest) (hW : (rest.map fun v => v.category).sum ≤ 8) (hdg : decode cc pc = .ok (.invokestatic index, 3)) (hf : cells ≤ R.cells ∧ slots ≤ R.slots)
    (kk : ∀ (H1 : Heap) (locs1 : List Loc), va_P D vwCl (wr ++ wd u1) H1 → va_D A (wr ++ wd u1) → va_S A s.heap H1 locs1 → W p l e R s m args below meth c H1 locs1 cells slots Q (F0 m (pc + 3) ls (.int (bI b1) :: rest))) : W p l e R s m args below meth c H locs cells slots Q (F0 m pc ls st0) :=
  hx_ci hA hP hD hS isC isR hC hR hnR hdis (va_runS hI (hM H.size) cw ⟨(hx_pre hX hA hP hD hS isC hC hnC As).1, (hx_pre hX hA hP hD hS isC hC hnC As).2⟩ rfl hn hsz hst (lv_room hW) hdg hf) kk
theorem hx_Sv {u1 : S} (hI : hx_In p s m args c cc nL own Ts) (hM : hx_Mv l D tys adK adV tF wd y ws rm As u0 u1) (cw : CallB R s args own index y bytes maxL ret ws rm 0 0 n ∧ (Cond.static y).before args s = true) (hX : hx_X D tys adK adV tF A s s.heap) (hA : ∀ q : Nat, s.heap.size ≤ q → A q) (hP : va_P D vwCl w0 H) (hD : va_D A w0) (hS : va_S A s.heap H locs) (isC isR : List Nat) (hC : isC.map (fun i => w0[i]?) = (wd u0).map some) (hR : isR.map (fun i => w0[i]?) = wr.map some) (hnC : va_nd isC = true) (hnR : va_nd isR = true) (hdis : ∀ i ∈ isR, i ∉ isC)
    (hn : As.length = n) (hsz : ls.size = nL) (hst : st0 = As.reverse ++ rest) (hW : (rest.map fun v => v.category).sum ≤ 8) (hdg : decode cc pc = .ok (.invokestatic index, 3)) (hf : cells ≤ R.cells ∧ slots ≤ R.slots)
    (kk : ∀ (H1 : Heap) (locs1 : List Loc), va_P D vwCl (wr ++ wd u1) H1 → va_D A (wr ++ wd u1) → va_S A s.heap H1 locs1 → W p l e R s m args below meth c H1 locs1 cells slots Q (F0 m (pc + 3) ls (rest))) : W p l e R s m args below meth c H locs cells slots Q (F0 m pc ls st0) :=
  hx_cv hA hP hD hS isC isR hC hR hnR hdis (va_runS hI (hM H.size) cw ⟨(hx_pre hX hA hP hD hS isC hC hnC As).1, (hx_pre hX hA hP hD hS isC hC hnC As).2⟩ rfl hn hsz hst (lv_room hW) hdg hf) kk
theorem pr2 {α β : Type} {F : α × β} {a : α} {b : β} (h : F = (a, b)) : F.1 = a ∧ F.2 = b := by subst h; exact ⟨rfl, rfl⟩
end HXF
/-! the worlds -/
def rdW (ad : Nat → Nat) (cd : Nat → ClassId) (T : TX) (s : RS) : va_W := [(ad 0, .inr (1, [.ref (ad 1), .ref (ad 3), .ref (ad 4), .ref (ad 5), .int (rNm s), .int (rKd s), .int (rPl s), .int (rSk s), .int (rNb s), .int (rWs s), .int (rWe s)])), (ad 1, .inr (2, [.ref (ad 2), .int (T.2)])), (ad 2, .inl (cd 0, 300, .inl T.1)), (ad 3, .inl (cd 1, 100, .inl (rNs s))), (ad 4, .inl (cd 2, 100, .inl (rNe s))), (ad 5, .inr (0, [.ref (ad 6), .ref (ad 7)])), (ad 6, .inl (cd 3, 18, .inl (rVs s))), (ad 7, .inl (cd 4, 8, .inl (rVr s)))]
def tpW (ad : Nat → Nat) (cd : Nat → ClassId) (T : TX) : va_W := [(ad 1, .inr (2, [.ref (ad 2), .int (T.2)])), (ad 2, .inl (cd 0, 300, .inl T.1))]
def hdW (ah av ar : Nat) (cv cr : ClassId) (q : (Nat → Int32) × (Nat → Int32)) : va_W := [(ah, .inr (0, [.ref (av), .ref (ar)])), (av, .inl (cv, 18, .inl q.1)), (ar, .inl (cr, 8, .inl q.2))]
abbrev tyH (cd : Nat → ClassId) : List (ClassId × FieldType) := [(cd 0, .char), (cd 1, .int), (cd 2, .int), (cd 3, .int), (cd 4, .int), (cd 5, .int), (cd 6, .int)]
