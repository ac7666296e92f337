/-! what read needs beside the rest: words that are no good words -/
abbrev tIAE : String := "java/lang/IllegalArgumentException"
def hx_N (U : State) : Prop := va_Nw (.castable tIAE tIAE) U ∧ va_Nw (.declares ⟨"java/lang/RuntimeException", "<init>", "(Ljava/lang/String;)V"⟩) U ∧ va_Nw (.declares ⟨"java/lang/Exception", "<init>", "(Ljava/lang/String;)V"⟩) U ∧ va_Nw (.declares ⟨"java/lang/Throwable", "<init>", "(Ljava/lang/String;)V"⟩) U ∧ va_Nw (.methodLinkNest "HeadDesk" 9 y_Reader_init "HeadDesk") U ∧ va_Nw (.methodLinkNest "HeadDesk$Reader" 11 y_Tape_init "HeadDesk") U ∧ va_Nw (.methodLinkNest "HeadDesk$Reader" 27 y_Head_init "HeadDesk") U ∧ va_Nw (.methodLinkNest "HeadDesk" 23 y_Head_init "HeadDesk") U
theorem hx_N.warm {s U : State} (hW : s.WarmedH U.vm) (h : hx_N s) : hx_N U := ⟨h.1.warmC hW, h.2.1.warmD hW, h.2.2.1.warmD hW, h.2.2.2.1.warmD hW, h.2.2.2.2.1.warmM hW, h.2.2.2.2.2.1.warmM hW, h.2.2.2.2.2.2.1.warmM hW, h.2.2.2.2.2.2.2.warmM hW⟩
theorem hx_N.same {u U : State} (e : u.vm = U.vm) (h : hx_N u) : hx_N U := ⟨h.1.same rfl e, h.2.1.same rfl e, h.2.2.1.same rfl e, h.2.2.2.1.same rfl e, h.2.2.2.2.1.same rfl e, h.2.2.2.2.2.1.same rfl e, h.2.2.2.2.2.2.1.same rfl e, h.2.2.2.2.2.2.2.same rfl e⟩
def hx_PcN (D : va_G) (tys : List (ClassId × FieldType)) (adK adV : Nat → Nat) (tF : Nat) (w0 : va_W) (As : List Value) (sz : Nat) : Array Value → State → Prop := va_Pc As (fun U => U.heap.size = sz ∧ va_P D vwCl w0 U.heap ∧ hx_X D tys adK adV tF (va_A w0 sz) U U.heap ∧ va_D (fun _ => True) w0 ∧ hx_N U)
abbrev rmC (d c n : Nat) : Room := { frames := d, cells := c, slots := n, locals := 36 * d }
theorem hx_preN {s : State} {H : Heap} {locs : List Loc} {D : va_G} {tys : List (ClassId × FieldType)} {adK adV : Nat → Nat} {tF : Nat} {A : Nat → Prop} {w0 wc : va_W} (hX : hx_X D tys adK adV tF A s s.heap) (hN : hx_N s) (hA : ∀ q : Nat, s.heap.size ≤ q → A q) (hP : va_P D vwCl w0 H) (hD : va_D A w0) (hS : va_S A s.heap H locs) (isC : List Nat) (hC : isC.map (fun i => w0[i]?) = wc.map some) (hn : va_nd isC = true) (As : List Value) :
    FrameBlind (hx_PcN D tys adK adV tF wc As H.size) ∧ ∀ U : State, U.heap = H → s.WarmedH U.vm → hx_PcN D tys adK adV tF wc As H.size As.toArray U := by
  refine ⟨fun a U g mk q => ?_, fun U hU hW => ?_⟩
  · obtain ⟨q0, q1, qP, qX, qD, qN⟩ := q
    exact ⟨q0, q1, qP, qX.blind g mk a, qD, qN.same rfl⟩
  · refine ⟨rfl, by rw [hU], ?_, hX.call hS (va_free hD hS hA isC hC) hU hW, (hD.sub isC hn hC).weaken (fun _ _ _ _ => trivial), hN.warm hW⟩
    rw [hU]
    exact hP.sub isC (hx_fm isC wc hC)
/-- at first -/
def d_0 : DS := ((fun _ => 0, 0), (0, 0, 0, -1, 0, 0, 0, fun _ => 0, fun _ => 0, fun _ => 0, fun _ => 0), (fun _ => 0, fun _ => 0), 0, -1)
def s_0 : MS := (upd (fun _ => 0) 2 (-1), fun _ => 0, fun _ => 0, fun _ => 0, fun _ => 0, fun _ => 0, fun _ => 0)
