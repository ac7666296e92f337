/-! WHAT THE START GIVES: the literals, the statics -/
def fl_1 : List Cond := flatC (Jvm.Cond.and given_1 narrow_1)
abbrev ownJ : List String := ["HeadDesk", "HeadDesk$Reader", "HeadDesk$Reader", "HeadDesk$Reader", "HeadDesk$Reader", "HeadDesk$Reader", "HeadDesk$Reader", "HeadDesk$Reader", "HeadDesk$Reader", "HeadDesk$Reader", "HeadDesk$Reader", "HeadDesk$Reader", "HeadDesk$Reader", "HeadDesk$Reader", "HeadDesk$Reader", "HeadDesk$Reader", "HeadDesk$Reader", "HeadDesk$Reader", "HeadDesk", "HeadDeskModel", "HeadDeskModel", "HeadDeskModel", "HeadDeskModel", "HeadDeskModel", "HeadDeskModel", "HeadDeskModel", "HeadDeskModel", "HeadDeskModel", "HeadDeskModel", "HeadDeskModel", "HeadDeskModel", "HeadDeskModel", "HeadDeskModel", "HeadDeskModel", "HeadDeskModel", "HeadDeskModel"]
abbrev kJ : List Nat := [43, 92, 98, 100, 115, 169, 171, 173, 175, 177, 179, 181, 183, 123, 146, 128, 133, 138, 59, 187, 189, 191, 204, 93, 211, 216, 130, 138, 143, 148, 153, 158, 169, 174, 221, 222]
abbrev baJ : List Nat := [37, 53, 60, 68, 75, 92, 104, 116, 134, 147, 158, 176, 202, 215, 224, 234, 251, 261, 269, 285, 294, 302, 310, 320, 331, 349, 367, 380, 399, 411, 425, 439, 452, 471, 498, 509]
abbrev tmJ (i : Nat) : Term := .string (ownJ.getD i "") (kJ.getD i 0)
set_option maxRecDepth 100000 in
theorem pj1 : ∀ i, i < nJS → fl_1[baJ.getD i 0]? = some (Cond.exactly (tmJ i) "java/lang/String") := by decide +kernel
set_option maxRecDepth 100000 in
theorem pj2 : ∀ i, i < nJS → fl_1[baJ.getD i 0 + 1]? = some (Cond.eq (.field (tmJ i) "java/lang/String" "coder" "B") (.int 0)) := by decide +kernel
set_option maxRecDepth 100000 in
theorem pj3 : ∀ i, i < nJS → fl_1[baJ.getD i 0 + 2]? = some (Cond.arrayOf (.field (tmJ i) "java/lang/String" "value" "[B") .byte) := by decide +kernel
set_option maxRecDepth 100000 in
theorem pj4 : ∀ i, i < nJS → fl_1[baJ.getD i 0 + 3]? = some (Cond.eq (.length (.field (tmJ i) "java/lang/String" "value" "[B")) (.int (Int32.ofNat (lenJS.getD i 0)))) := by decide +kernel
set_option maxRecDepth 100000 in
theorem pj5 : ∀ i, i < nJS → ∀ j, j < lenJS.getD i 0 → fl_1[baJ.getD i 0 + 4 + j]? = some (Cond.eq (.elem (.field (tmJ i) "java/lang/String" "value" "[B") (.int (Int32.ofNat j))) (.int ((bytJS.getD i []).getD j 0))) := by decide +kernel
set_option maxRecDepth 100000 in
theorem pj6 : ∀ j, j < 18 → fl_1[7 + j]? = some (Cond.eq (.elem (.static "HeadDesk$Head" "AT_FIRST" "[I") (.int (Int32.ofNat j))) (.int (at0 j))) := by decide +kernel
set_option maxRecDepth 100000 in
theorem pj7 : ∀ q ∈ hx_strs, q.2.2.2 < nJS ∧ tmJ q.2.2.2 = Term.string q.1 q.2.1 := by decide +kernel
theorem lt_1 {i : Nat} {w : Cond} (h : tables_1_1[i]? = some w) : w ∈ lw_tbl := List.mem_append_right _ (List.mem_append_left _ (List.mem_of_getElem? h))
theorem lt_2 {i : Nat} {w : Cond} (h : tables_1_2[i]? = some w) : w ∈ lw_tbl := List.mem_append_right _ (List.mem_append_right _ (List.mem_append_left _ (List.mem_of_getElem? h)))
theorem lt_3 {i : Nat} {w : Cond} (h : tables_1_3[i]? = some w) : w ∈ lw_tbl := List.mem_append_right _ (List.mem_append_right _ (List.mem_append_right _ (List.mem_of_getElem? h)))
theorem sr_0 : Cond.stringRef "HeadDesk" 43 "no such kind" ∈ lw_tbl := lt_1 (i := 216) rfl
theorem sr_1 : Cond.stringRef "HeadDesk$Reader" 92 "PUT" ∈ lw_tbl := lt_2 (i := 26) rfl
theorem sr_2 : Cond.stringRef "HeadDesk$Reader" 98 "HEAD" ∈ lw_tbl := lt_2 (i := 91) rfl
theorem sr_3 : Cond.stringRef "HeadDesk$Reader" 100 "GET" ∈ lw_tbl := lt_2 (i := 92) rfl
theorem sr_4 : Cond.stringRef "HeadDesk$Reader" 115 "cache-control" ∈ lw_tbl := lt_2 (i := 135) rfl
theorem sr_5 : Cond.stringRef "HeadDesk$Reader" 169 "no-cache" ∈ lw_tbl := lt_2 (i := 148) rfl
theorem sr_6 : Cond.stringRef "HeadDesk$Reader" 171 "no-store" ∈ lw_tbl := lt_2 (i := 149) rfl
theorem sr_7 : Cond.stringRef "HeadDesk$Reader" 173 "only-if-cached" ∈ lw_tbl := lt_2 (i := 150) rfl
theorem sr_8 : Cond.stringRef "HeadDesk$Reader" 175 "max-stale" ∈ lw_tbl := lt_2 (i := 151) rfl
theorem sr_9 : Cond.stringRef "HeadDesk$Reader" 177 "max-age" ∈ lw_tbl := lt_2 (i := 157) rfl
theorem sr_10 : Cond.stringRef "HeadDesk$Reader" 179 "stale-if-error" ∈ lw_tbl := lt_2 (i := 158) rfl
theorem sr_11 : Cond.stringRef "HeadDesk$Reader" 181 "stale-while-revalidate" ∈ lw_tbl := lt_2 (i := 159) rfl
theorem sr_12 : Cond.stringRef "HeadDesk$Reader" 183 "min-fresh" ∈ lw_tbl := lt_2 (i := 160) rfl
theorem sr_13 : Cond.stringRef "HeadDesk$Reader" 123 "range" ∈ lw_tbl := lt_2 (i := 161) rfl
theorem sr_14 : Cond.stringRef "HeadDesk$Reader" 146 "bytes=" ∈ lw_tbl := lt_2 (i := 166) rfl
theorem sr_15 : Cond.stringRef "HeadDesk$Reader" 128 "if-none-match" ∈ lw_tbl := lt_2 (i := 171) rfl
theorem sr_16 : Cond.stringRef "HeadDesk$Reader" 133 "length" ∈ lw_tbl := lt_2 (i := 180) rfl
theorem sr_17 : Cond.stringRef "HeadDesk$Reader" 138 "keys" ∈ lw_tbl := lt_2 (i := 185) rfl
theorem sr_18 : Cond.stringRef "HeadDesk" 59 "no such text" ∈ lw_tbl := lt_2 (i := 206) rfl
theorem sr_19 : Cond.stringRef "HeadDeskModel" 187 "HEAD" ∈ lw_tbl := lt_3 (i := 113) rfl
theorem sr_20 : Cond.stringRef "HeadDeskModel" 189 "GET" ∈ lw_tbl := lt_3 (i := 128) rfl
theorem sr_21 : Cond.stringRef "HeadDeskModel" 191 "PUT" ∈ lw_tbl := lt_3 (i := 129) rfl
theorem sr_22 : Cond.stringRef "HeadDeskModel" 204 "range" ∈ lw_tbl := lt_3 (i := 156) rfl
theorem sr_23 : Cond.stringRef "HeadDeskModel" 93 "bytes=" ∈ lw_tbl := lt_3 (i := 165) rfl
theorem sr_24 : Cond.stringRef "HeadDeskModel" 211 "if-none-match" ∈ lw_tbl := lt_3 (i := 167) rfl
theorem sr_25 : Cond.stringRef "HeadDeskModel" 216 "cache-control" ∈ lw_tbl := lt_3 (i := 172) rfl
theorem sr_26 : Cond.stringRef "HeadDeskModel" 130 "no-cache" ∈ lw_tbl := lt_3 (i := 181) rfl
theorem sr_27 : Cond.stringRef "HeadDeskModel" 138 "only-if-cached" ∈ lw_tbl := lt_3 (i := 186) rfl
theorem sr_28 : Cond.stringRef "HeadDeskModel" 143 "max-age" ∈ lw_tbl := lt_3 (i := 187) rfl
theorem sr_29 : Cond.stringRef "HeadDeskModel" 148 "max-stale" ∈ lw_tbl := lt_3 (i := 188) rfl
theorem sr_30 : Cond.stringRef "HeadDeskModel" 153 "min-fresh" ∈ lw_tbl := lt_3 (i := 189) rfl
theorem sr_31 : Cond.stringRef "HeadDeskModel" 158 "no-store" ∈ lw_tbl := lt_3 (i := 194) rfl
theorem sr_32 : Cond.stringRef "HeadDeskModel" 169 "stale-if-error" ∈ lw_tbl := lt_3 (i := 195) rfl
theorem sr_33 : Cond.stringRef "HeadDeskModel" 174 "stale-while-revalidate" ∈ lw_tbl := lt_3 (i := 196) rfl
theorem sr_34 : Cond.stringRef "HeadDeskModel" 221 "length" ∈ lw_tbl := lt_3 (i := 197) rfl
theorem sr_35 : Cond.stringRef "HeadDeskModel" 222 "keys" ∈ lw_tbl := lt_3 (i := 198) rfl
theorem sr_all : ∀ q ∈ hx_strs, Cond.stringRef q.1 q.2.1 q.2.2.1 ∈ lw_tbl := by
  intro q hq
  rcases List.mem_cons.mp hq with rfl | hq
  · exact sr_0
  rcases List.mem_cons.mp hq with rfl | hq
  · exact sr_1
  rcases List.mem_cons.mp hq with rfl | hq
  · exact sr_2
  rcases List.mem_cons.mp hq with rfl | hq
  · exact sr_3
  rcases List.mem_cons.mp hq with rfl | hq
  · exact sr_4
  rcases List.mem_cons.mp hq with rfl | hq
  · exact sr_5
  rcases List.mem_cons.mp hq with rfl | hq
  · exact sr_6
  rcases List.mem_cons.mp hq with rfl | hq
  · exact sr_7
  rcases List.mem_cons.mp hq with rfl | hq
  · exact sr_8
  rcases List.mem_cons.mp hq with rfl | hq
  · exact sr_9
  rcases List.mem_cons.mp hq with rfl | hq
  · exact sr_10
  rcases List.mem_cons.mp hq with rfl | hq
  · exact sr_11
  rcases List.mem_cons.mp hq with rfl | hq
  · exact sr_12
  rcases List.mem_cons.mp hq with rfl | hq
  · exact sr_13
  rcases List.mem_cons.mp hq with rfl | hq
  · exact sr_14
  rcases List.mem_cons.mp hq with rfl | hq
  · exact sr_15
  rcases List.mem_cons.mp hq with rfl | hq
  · exact sr_16
  rcases List.mem_cons.mp hq with rfl | hq
  · exact sr_17
  rcases List.mem_cons.mp hq with rfl | hq
  · exact sr_18
  rcases List.mem_cons.mp hq with rfl | hq
  · exact sr_19
  rcases List.mem_cons.mp hq with rfl | hq
  · exact sr_20
  rcases List.mem_cons.mp hq with rfl | hq
  · exact sr_21
  rcases List.mem_cons.mp hq with rfl | hq
  · exact sr_22
  rcases List.mem_cons.mp hq with rfl | hq
  · exact sr_23
  rcases List.mem_cons.mp hq with rfl | hq
  · exact sr_24
  rcases List.mem_cons.mp hq with rfl | hq
  · exact sr_25
  rcases List.mem_cons.mp hq with rfl | hq
  · exact sr_26
  rcases List.mem_cons.mp hq with rfl | hq
  · exact sr_27
  rcases List.mem_cons.mp hq with rfl | hq
  · exact sr_28
  rcases List.mem_cons.mp hq with rfl | hq
  · exact sr_29
  rcases List.mem_cons.mp hq with rfl | hq
  · exact sr_30
  rcases List.mem_cons.mp hq with rfl | hq
  · exact sr_31
  rcases List.mem_cons.mp hq with rfl | hq
  · exact sr_32
  rcases List.mem_cons.mp hq with rfl | hq
  · exact sr_33
  rcases List.mem_cons.mp hq with rfl | hq
  · exact sr_34
  rcases List.mem_cons.mp hq with rfl | hq
  · exact sr_35
  exact absurd hq List.not_mem_nil
theorem hx_Sof {args : Array Value} {s : State} {A : Nat → Prop} (hs : ∀ w ∈ fl_1, w.before args s = true) (hA : ∀ a : Nat, a < s.heap.size → ¬ A a) : ∃ adK adV : Nat → Nat, hx_S adK adV A s s.heap ∧ ∀ i : Nat, i < nJS → (tmJ i).eval args s none [] s = some (.ref (adK i)) := by
  have hm : ∀ {k : Nat} {w : Cond}, fl_1[k]? = some w → w.before args s = true := fun h => hs _ (List.mem_of_getElem? h)
  have h0 : ∀ i : Nat, ∃ q : Nat × Nat, i < nJS → (tmJ i).eval args s none [] s = some (.ref q.1) ∧ va_O "java/lang/String" q.1 A s s.heap ∧ va_OF "java/lang/String" "coder" "B" (.int 0) q.1 A s s.heap ∧ va_OF "java/lang/String" "value" "[B" (.ref q.2) q.1 A s s.heap ∧ va_T .byte q.2 (lenJS.getD i 0) (fun j => .int ((bytJS.getD i []).getD j 0)) A s s.heap := by
    intro i
    by_cases hi : i < nJS
    · obtain ⟨a, c, cA, kA, q1, q2, q3, q4, q5, q6, -⟩ := Cond.exactly_spec (args := args) (first := s) (o := none) (s := s) (idx := []) (t := tmJ i) (cls := "java/lang/String") (hm (pj1 i hi))
      have hN : lenJS.getD i 0 < 2 ^ 31 := by rw [(sw_all i hi).2.1]; have := (sw_all i hi).1; omega
      obtain ⟨t, ht, hT⟩ := va_Tof (f := fun j => .int ((bytJS.getD i []).getD j 0)) (A := A) hN (hm (pj3 i hi)) (va_eqt (hm (pj4 i hi))) (fun j hj => va_eqt (hm (pj5 i hi j hj))) hA
      exact ⟨(a, t), fun _ => ⟨q1, ⟨cA, q3, q5, by rw [q6]; exact q2, hA a (Array.getElem?_eq_some_iff.mp q3).1⟩, vk_OFof q1 (va_eqt (hm (pj2 i hi))) hA, vk_OFof q1 ht hA, hT⟩⟩
    · exact ⟨(0, 0), fun h => absurd h hi⟩
  obtain ⟨ad, had⟩ := Classical.axiomOfChoice h0
  exact ⟨fun i => (ad i).1, fun i => (ad i).2, fun i hi => (had i hi).2, fun i hi => (had i hi).1⟩
theorem hx_start {args : Array Value} {s : State} (hts : ∀ w ∈ lw_tbl, w.before args s = true) (hgv : (Jvm.Cond.and given_1 narrow_1).before args s = true) : ∃ (D : va_G) (adK adV : Nat → Nat) (tF : Nat), hx_X D [] adK adV tF (fun q : Nat => s.heap.size ≤ q) s s.heap ∧ hx_N s := by
  have hs : ∀ w ∈ fl_1, w.before args s = true := flat_of_before _ hgv
  have hm : ∀ {k : Nat} {w : Cond}, fl_1[k]? = some w → w.before args s = true := fun h => hs _ (List.mem_of_getElem? h)
  have hA : ∀ a : Nat, a < s.heap.size → ¬ (fun q : Nat => s.heap.size ≤ q) a := fun a h => Nat.not_le.mpr h
  have hta : ∀ w ∈ aw, w.before args s = true := fun w h => hts w (List.mem_filter.mp h).1
  obtain ⟨c0, i0, hK0⟩ := u_known (C := "HeadDesk$Head") (T := F_Head) (N := 2) (n := 2) hta a_Head (hta _ m_1_45)
  obtain ⟨c1, i1, hK1⟩ := u_known (C := "HeadDesk$Reader") (T := F_Reader) (N := 11) (n := 11) hta a_Reader (hta _ m_1_25)
  obtain ⟨c2, i2, hK2⟩ := u_known (C := "HeadDesk$Tape") (T := F_Tape) (N := 2) (n := 2) hta a_Tape (hta _ m_1_31)
  obtain ⟨c3, i3, hK3⟩ := u_known (C := "HeadDesk") (T := F_Desk) (N := 5) (n := 5) hta a_Desk (hta _ m_1_17)
  obtain ⟨c4, i4, hK4⟩ := u_known (C := "HeadDeskModel") (T := F_Mod) (N := 38) (n := 38) hta a_Mod (hta _ m_2_212)
  obtain ⟨dC, dI, hKc⟩ : ∃ (dC : Nat → ClassId) (dI : Nat → Nat → Nat), ∀ (k : Nat) (q : vw_C), vwCl[k]? = some q → u_Kn s q.1 q.2.1 q.2.2 (dC k) (dI k) := by
    refine ⟨fun k => if k = 0 then c0 else if k = 1 then c1 else if k = 2 then c2 else if k = 3 then c3 else c4, fun k => if k = 0 then i0 else if k = 1 then i1 else if k = 2 then i2 else if k = 3 then i3 else i4, ?_⟩
    intro k q hq
    match k, hq with
    | 0, hq => cases hq; exact hK0
    | 1, hq => cases hq; exact hK1
    | 2, hq => cases hq; exact hK2
    | 3, hq => cases hq; exact hK3
    | 4, hq => cases hq; exact hK4
    | k + 5, hq => simp [vwCl] at hq
  obtain ⟨adK, adV, hSt, hev⟩ := hx_Sof (A := fun q : Nat => s.heap.size ≤ q) hs hA
  obtain ⟨tF, htF, hTF⟩ := va_Tof (tm := .static "HeadDesk$Head" "AT_FIRST" "[I") (ty := .int) (N := 18) (f := fun j => .int (at0 j)) (A := fun q : Nat => s.heap.size ≤ q) (by decide) (hm (k := 5) rfl) (va_eqt (hm (k := 6) rfl)) (fun j hj => va_eqt (hm (pj6 j hj))) hA
  refine ⟨(dC, dI), adK, adV, tF, ⟨⟨hKc, fun k q h => by simp at h⟩, hSt, va_Zof (hts _ (lt_1 (i := 51) rfl)) (hts _ (lt_1 (i := 4) rfl)) htF hA, hTF, va_Zof (hts _ (lt_2 (i := 40) rfl)) (hts _ (lt_1 (i := 11) rfl)) (va_eqt (hm (k := 27) rfl)) hA, fun own k tx i h => ?_, va_Zqof (hts _ (lt_2 (i := 64) rfl)) (hts _ (lt_1 (i := 13) rfl)) (hm (k := 28) rfl) hA, vx_Zqof (hts _ (lt_1 (i := 204) rfl)) (hts _ (lt_1 (i := 6) rfl)) (hm (k := 25) rfl) hA, vx_Zqof (hts _ (lt_1 (i := 206) rfl)) (hts _ (lt_1 (i := 6) rfl)) (hm (k := 26) rfl) hA⟩, ?_⟩
  · obtain ⟨h1, h2⟩ := pj7 _ h
    have h3 := hev _ h1
    rw [h2] at h3
    exact vk_R.of (hts _ (sr_all _ h)) h3
  · exact ⟨va_Nw.of rfl (hts _ (lt_1 (i := 179) rfl)), va_Nw.of rfl (hts _ (lt_1 (i := 181) rfl)), va_Nw.of rfl (hts _ (lt_1 (i := 183) rfl)), va_Nw.of rfl (hts _ (lt_1 (i := 185) rfl)), va_Nw.of rfl (hts _ (lt_1 (i := 26) rfl)), va_Nw.of rfl (hts _ (lt_1 (i := 32) rfl)), va_Nw.of rfl (hts _ (lt_1 (i := 46) rfl)), va_Nw.of rfl (hts _ (lt_1 (i := 96) rfl))⟩
