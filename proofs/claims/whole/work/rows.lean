section
-- ===== PART A: goes FIRST, ahead of the names: the tables' words, and 'selects' of the private methods out of them =====
/-- a private method of a class that the tables say can be made, by its rows of tables_1 -/
def lw_okq (q : MethodName × Nat) : Prop := (q.1.cls ≠ "java/lang/invoke/MethodHandle" ∧ q.1.cls ≠ "java/lang/invoke/VarHandle") ∧ Cond.instantiable q.1.cls q.2 ∈ tables_1 ∧ Cond.privateMethod q.1 ∈ tables_1 ∧ Cond.instanceMethod q.1 ∈ tables_1
theorem lw_p0 : lw_okq (⟨"HeadDesk$Head", "hasVersion", "(I)Z"⟩, 2) := ⟨⟨by decide +kernel, by decide +kernel⟩, List.mem_of_getElem? (i := 45) (by decide +kernel), List.mem_of_getElem? (i := 147) (by decide +kernel), List.mem_of_getElem? (i := 148) (by decide +kernel)⟩
theorem lw_p1 : lw_okq (⟨"java/lang/Throwable", "fillInStackTrace", "(I)Ljava/lang/Throwable;"⟩, 6) := ⟨⟨by decide +kernel, by decide +kernel⟩, List.mem_of_getElem? (i := 213) (by decide +kernel), List.mem_of_getElem? (i := 211) (by decide +kernel), List.mem_of_getElem? (i := 212) (by decide +kernel)⟩
theorem lw_p2 : lw_okq (⟨"HeadDesk$Reader", "readFirstLine", "()Z"⟩, 11) := ⟨⟨by decide +kernel, by decide +kernel⟩, List.mem_of_getElem? (i := 39) (by decide +kernel), List.mem_of_getElem? (i := 254) (by decide +kernel), List.mem_of_getElem? (i := 255) (by decide +kernel)⟩
theorem lw_p3 : lw_okq (⟨"HeadDesk$Reader", "readVerb", "()Z"⟩, 11) := ⟨⟨by decide +kernel, by decide +kernel⟩, List.mem_of_getElem? (i := 39) (by decide +kernel), List.mem_of_getElem? (i := 258) (by decide +kernel), List.mem_of_getElem? (i := 259) (by decide +kernel)⟩
theorem lw_p4 : lw_okq (⟨"HeadDesk$Reader", "takeAll", "(Ljava/lang/String;)Z"⟩, 11) := ⟨⟨by decide +kernel, by decide +kernel⟩, List.mem_of_getElem? (i := 39) (by decide +kernel), List.mem_of_getElem? (i := 267) (by decide +kernel), List.mem_of_getElem? (i := 268) (by decide +kernel)⟩
theorem lw_p5 : lw_okq (⟨"HeadDesk$Reader", "mark", "()I"⟩, 11) := ⟨⟨by decide +kernel, by decide +kernel⟩, List.mem_of_getElem? (i := 39) (by decide +kernel), List.mem_of_getElem? (i := 281) (by decide +kernel), List.mem_of_getElem? (i := 282) (by decide +kernel)⟩
theorem lw_p6 : lw_okq (⟨"HeadDesk$Reader", "stop", "(I)Z"⟩, 11) := ⟨⟨by decide +kernel, by decide +kernel⟩, List.mem_of_getElem? (i := 39) (by decide +kernel), List.mem_of_getElem? (i := 327) (by decide +kernel), List.mem_of_getElem? (i := 328) (by decide +kernel)⟩
theorem lw_p7 : lw_okq (⟨"HeadDesk$Reader", "take", "(C)Z"⟩, 11) := ⟨⟨by decide +kernel, by decide +kernel⟩, List.mem_of_getElem? (i := 39) (by decide +kernel), List.mem_of_getElem? (i := 333) (by decide +kernel), List.mem_of_getElem? (i := 334) (by decide +kernel)⟩
theorem lw_p8 : lw_okq (⟨"HeadDesk$Reader", "readTarget", "()Z"⟩, 11) := ⟨⟨by decide +kernel, by decide +kernel⟩, List.mem_of_getElem? (i := 39) (by decide +kernel), List.mem_of_getElem? (i := 337) (by decide +kernel), List.mem_of_getElem? (i := 338) (by decide +kernel)⟩
theorem lw_p9 : lw_okq (⟨"HeadDesk$Reader", "takeNumber", "(I)Z"⟩, 11) := ⟨⟨by decide +kernel, by decide +kernel⟩, List.mem_of_getElem? (i := 39) (by decide +kernel), List.mem_of_getElem? (i := 341) (by decide +kernel), List.mem_of_getElem? (i := 342) (by decide +kernel)⟩
theorem lw_p10 : lw_okq (⟨"HeadDesk$Reader", "skip", "(C)Z"⟩, 11) := ⟨⟨by decide +kernel, by decide +kernel⟩, List.mem_of_getElem? (i := 39) (by decide +kernel), List.mem_of_getElem? (i := 348) (by decide +kernel), List.mem_of_getElem? (i := 349) (by decide +kernel)⟩
theorem lw_p11 : lw_okq (⟨"HeadDesk$Reader", "readName", "()Z"⟩, 11) := ⟨⟨by decide +kernel, by decide +kernel⟩, List.mem_of_getElem? (i := 39) (by decide +kernel), List.mem_of_getElem? (i := 352) (by decide +kernel), List.mem_of_getElem? (i := 353) (by decide +kernel)⟩
theorem lw_p12 : lw_okq (⟨"HeadDesk$Reader", "takeLetters", "(I)Z"⟩, 11) := ⟨⟨by decide +kernel, by decide +kernel⟩, List.mem_of_getElem? (i := 39) (by decide +kernel), List.mem_of_getElem? (i := 356) (by decide +kernel), List.mem_of_getElem? (i := 357) (by decide +kernel)⟩
theorem lw_p13 : lw_okq (⟨"HeadDesk$Reader", "wasThere", "()Z"⟩, 11) := ⟨⟨by decide +kernel, by decide +kernel⟩, List.mem_of_getElem? (i := 39) (by decide +kernel), List.mem_of_getElem? (i := 363) (by decide +kernel), List.mem_of_getElem? (i := 364) (by decide +kernel)⟩
theorem lw_p14 : lw_okq (⟨"HeadDesk$Reader", "isWordFrom", "(II)Z"⟩, 11) := ⟨⟨by decide +kernel, by decide +kernel⟩, List.mem_of_getElem? (i := 39) (by decide +kernel), List.mem_of_getElem? (i := 367) (by decide +kernel), List.mem_of_getElem? (i := 368) (by decide +kernel)⟩
theorem lw_p15 : lw_okq (⟨"HeadDesk$Reader", "readValue", "()Z"⟩, 11) := ⟨⟨by decide +kernel, by decide +kernel⟩, List.mem_of_getElem? (i := 39) (by decide +kernel), List.mem_of_getElem? (i := 371) (by decide +kernel), List.mem_of_getElem? (i := 372) (by decide +kernel)⟩
def lw_privs_1 : List (MethodName × Nat) := [(⟨"HeadDesk$Head", "hasVersion", "(I)Z"⟩, 2), (⟨"java/lang/Throwable", "fillInStackTrace", "(I)Ljava/lang/Throwable;"⟩, 6), (⟨"HeadDesk$Reader", "readFirstLine", "()Z"⟩, 11), (⟨"HeadDesk$Reader", "readVerb", "()Z"⟩, 11), (⟨"HeadDesk$Reader", "takeAll", "(Ljava/lang/String;)Z"⟩, 11), (⟨"HeadDesk$Reader", "mark", "()I"⟩, 11), (⟨"HeadDesk$Reader", "stop", "(I)Z"⟩, 11), (⟨"HeadDesk$Reader", "take", "(C)Z"⟩, 11), (⟨"HeadDesk$Reader", "readTarget", "()Z"⟩, 11), (⟨"HeadDesk$Reader", "takeNumber", "(I)Z"⟩, 11), (⟨"HeadDesk$Reader", "skip", "(C)Z"⟩, 11), (⟨"HeadDesk$Reader", "readName", "()Z"⟩, 11), (⟨"HeadDesk$Reader", "takeLetters", "(I)Z"⟩, 11), (⟨"HeadDesk$Reader", "wasThere", "()Z"⟩, 11), (⟨"HeadDesk$Reader", "isWordFrom", "(II)Z"⟩, 11), (⟨"HeadDesk$Reader", "readValue", "()Z"⟩, 11)]
theorem lw_r1 : ∀ q ∈ lw_privs_1, lw_okq q := List.forall_mem_cons.mpr ⟨lw_p0, List.forall_mem_cons.mpr ⟨lw_p1, List.forall_mem_cons.mpr ⟨lw_p2, List.forall_mem_cons.mpr ⟨lw_p3, List.forall_mem_cons.mpr ⟨lw_p4, List.forall_mem_cons.mpr ⟨lw_p5, List.forall_mem_cons.mpr ⟨lw_p6, List.forall_mem_cons.mpr ⟨lw_p7, List.forall_mem_cons.mpr ⟨lw_p8, List.forall_mem_cons.mpr ⟨lw_p9, List.forall_mem_cons.mpr ⟨lw_p10, List.forall_mem_cons.mpr ⟨lw_p11, List.forall_mem_cons.mpr ⟨lw_p12, List.forall_mem_cons.mpr ⟨lw_p13, List.forall_mem_cons.mpr ⟨lw_p14, List.forall_mem_cons.mpr ⟨lw_p15, fun _ h => absurd h List.not_mem_nil⟩⟩⟩⟩⟩⟩⟩⟩⟩⟩⟩⟩⟩⟩⟩⟩
theorem lw_p16 : lw_okq (⟨"HeadDesk$Reader", "isWord", "(Ljava/lang/String;)Z"⟩, 11) := ⟨⟨by decide +kernel, by decide +kernel⟩, List.mem_of_getElem? (i := 39) (by decide +kernel), List.mem_of_getElem? (i := 376) (by decide +kernel), List.mem_of_getElem? (i := 377) (by decide +kernel)⟩
theorem lw_p17 : lw_okq (⟨"HeadDesk$Reader", "readList", "()Z"⟩, 11) := ⟨⟨by decide +kernel, by decide +kernel⟩, List.mem_of_getElem? (i := 39) (by decide +kernel), List.mem_of_getElem? (i := 380) (by decide +kernel), List.mem_of_getElem? (i := 381) (by decide +kernel)⟩
theorem lw_p18 : lw_okq (⟨"HeadDesk$Reader", "countBare", "()V"⟩, 11) := ⟨⟨by decide +kernel, by decide +kernel⟩, List.mem_of_getElem? (i := 39) (by decide +kernel), List.mem_of_getElem? (i := 384) (by decide +kernel), List.mem_of_getElem? (i := 385) (by decide +kernel)⟩
theorem lw_p19 : lw_okq (⟨"HeadDesk$Reader", "countWithNumber", "()V"⟩, 11) := ⟨⟨by decide +kernel, by decide +kernel⟩, List.mem_of_getElem? (i := 39) (by decide +kernel), List.mem_of_getElem? (i := 393) (by decide +kernel), List.mem_of_getElem? (i := 394) (by decide +kernel)⟩
theorem lw_p20 : lw_okq (⟨"HeadDesk$Reader", "readRange", "()Z"⟩, 11) := ⟨⟨by decide +kernel, by decide +kernel⟩, List.mem_of_getElem? (i := 39) (by decide +kernel), List.mem_of_getElem? (i := 402) (by decide +kernel), List.mem_of_getElem? (i := 403) (by decide +kernel)⟩
theorem lw_p21 : lw_okq (⟨"HeadDesk$Reader", "readVersions", "()Z"⟩, 11) := ⟨⟨by decide +kernel, by decide +kernel⟩, List.mem_of_getElem? (i := 39) (by decide +kernel), List.mem_of_getElem? (i := 412) (by decide +kernel), List.mem_of_getElem? (i := 413) (by decide +kernel)⟩
theorem lw_p22 : lw_okq (⟨"HeadDesk$Reader", "readLength", "()Z"⟩, 11) := ⟨⟨by decide +kernel, by decide +kernel⟩, List.mem_of_getElem? (i := 39) (by decide +kernel), List.mem_of_getElem? (i := 421) (by decide +kernel), List.mem_of_getElem? (i := 422) (by decide +kernel)⟩
theorem lw_p23 : lw_okq (⟨"HeadDesk$Reader", "readKeys", "()Z"⟩, 11) := ⟨⟨by decide +kernel, by decide +kernel⟩, List.mem_of_getElem? (i := 39) (by decide +kernel), List.mem_of_getElem? (i := 426) (by decide +kernel), List.mem_of_getElem? (i := 427) (by decide +kernel)⟩
theorem lw_p24 : lw_okq (⟨"HeadDesk$Reader", "readAnything", "()Z"⟩, 11) := ⟨⟨by decide +kernel, by decide +kernel⟩, List.mem_of_getElem? (i := 39) (by decide +kernel), List.mem_of_getElem? (i := 434) (by decide +kernel), List.mem_of_getElem? (i := 435) (by decide +kernel)⟩
theorem lw_p25 : lw_okq (⟨"HeadDeskModel", "readText", "(Z)Z"⟩, 38) := ⟨⟨by decide +kernel, by decide +kernel⟩, List.mem_of_getElem? (i := 451) (by decide +kernel), List.mem_of_getElem? (i := 585) (by decide +kernel), List.mem_of_getElem? (i := 586) (by decide +kernel)⟩
theorem lw_p26 : lw_okq (⟨"HeadDeskModel", "see", "()I"⟩, 38) := ⟨⟨by decide +kernel, by decide +kernel⟩, List.mem_of_getElem? (i := 451) (by decide +kernel), List.mem_of_getElem? (i := 589) (by decide +kernel), List.mem_of_getElem? (i := 590) (by decide +kernel)⟩
theorem lw_p27 : lw_okq (⟨"HeadDeskModel", "expectWord", "(Ljava/lang/String;)Z"⟩, 38) := ⟨⟨by decide +kernel, by decide +kernel⟩, List.mem_of_getElem? (i := 451) (by decide +kernel), List.mem_of_getElem? (i := 594) (by decide +kernel), List.mem_of_getElem? (i := 595) (by decide +kernel)⟩
theorem lw_p28 : lw_okq (⟨"HeadDeskModel", "expect", "(I)Z"⟩, 38) := ⟨⟨by decide +kernel, by decide +kernel⟩, List.mem_of_getElem? (i := 451) (by decide +kernel), List.mem_of_getElem? (i := 600) (by decide +kernel), List.mem_of_getElem? (i := 601) (by decide +kernel)⟩
theorem lw_p29 : lw_okq (⟨"HeadDeskModel", "wrong", "(I)Z"⟩, 38) := ⟨⟨by decide +kernel, by decide +kernel⟩, List.mem_of_getElem? (i := 451) (by decide +kernel), List.mem_of_getElem? (i := 604) (by decide +kernel), List.mem_of_getElem? (i := 605) (by decide +kernel)⟩
theorem lw_p30 : lw_okq (⟨"HeadDeskModel", "target", "(Z)V"⟩, 38) := ⟨⟨by decide +kernel, by decide +kernel⟩, List.mem_of_getElem? (i := 451) (by decide +kernel), List.mem_of_getElem? (i := 610) (by decide +kernel), List.mem_of_getElem? (i := 611) (by decide +kernel)⟩
theorem lw_p31 : lw_okq (⟨"HeadDeskModel", "number", "(I)I"⟩, 38) := ⟨⟨by decide +kernel, by decide +kernel⟩, List.mem_of_getElem? (i := 451) (by decide +kernel), List.mem_of_getElem? (i := 614) (by decide +kernel), List.mem_of_getElem? (i := 615) (by decide +kernel)⟩
def lw_privs_2 : List (MethodName × Nat) := [(⟨"HeadDesk$Reader", "isWord", "(Ljava/lang/String;)Z"⟩, 11), (⟨"HeadDesk$Reader", "readList", "()Z"⟩, 11), (⟨"HeadDesk$Reader", "countBare", "()V"⟩, 11), (⟨"HeadDesk$Reader", "countWithNumber", "()V"⟩, 11), (⟨"HeadDesk$Reader", "readRange", "()Z"⟩, 11), (⟨"HeadDesk$Reader", "readVersions", "()Z"⟩, 11), (⟨"HeadDesk$Reader", "readLength", "()Z"⟩, 11), (⟨"HeadDesk$Reader", "readKeys", "()Z"⟩, 11), (⟨"HeadDesk$Reader", "readAnything", "()Z"⟩, 11), (⟨"HeadDeskModel", "readText", "(Z)Z"⟩, 38), (⟨"HeadDeskModel", "see", "()I"⟩, 38), (⟨"HeadDeskModel", "expectWord", "(Ljava/lang/String;)Z"⟩, 38), (⟨"HeadDeskModel", "expect", "(I)Z"⟩, 38), (⟨"HeadDeskModel", "wrong", "(I)Z"⟩, 38), (⟨"HeadDeskModel", "target", "(Z)V"⟩, 38), (⟨"HeadDeskModel", "number", "(I)I"⟩, 38)]
theorem lw_r2 : ∀ q ∈ lw_privs_2, lw_okq q := List.forall_mem_cons.mpr ⟨lw_p16, List.forall_mem_cons.mpr ⟨lw_p17, List.forall_mem_cons.mpr ⟨lw_p18, List.forall_mem_cons.mpr ⟨lw_p19, List.forall_mem_cons.mpr ⟨lw_p20, List.forall_mem_cons.mpr ⟨lw_p21, List.forall_mem_cons.mpr ⟨lw_p22, List.forall_mem_cons.mpr ⟨lw_p23, List.forall_mem_cons.mpr ⟨lw_p24, List.forall_mem_cons.mpr ⟨lw_p25, List.forall_mem_cons.mpr ⟨lw_p26, List.forall_mem_cons.mpr ⟨lw_p27, List.forall_mem_cons.mpr ⟨lw_p28, List.forall_mem_cons.mpr ⟨lw_p29, List.forall_mem_cons.mpr ⟨lw_p30, List.forall_mem_cons.mpr ⟨lw_p31, fun _ h => absurd h List.not_mem_nil⟩⟩⟩⟩⟩⟩⟩⟩⟩⟩⟩⟩⟩⟩⟩⟩
theorem lw_p32 : lw_okq (⟨"HeadDeskModel", "line", "(Z)V"⟩, 38) := ⟨⟨by decide +kernel, by decide +kernel⟩, List.mem_of_getElem? (i := 451) (by decide +kernel), List.mem_of_getElem? (i := 621) (by decide +kernel), List.mem_of_getElem? (i := 622) (by decide +kernel)⟩
theorem lw_p33 : lw_okq (⟨"HeadDeskModel", "name", "()Z"⟩, 38) := ⟨⟨by decide +kernel, by decide +kernel⟩, List.mem_of_getElem? (i := 451) (by decide +kernel), List.mem_of_getElem? (i := 625) (by decide +kernel), List.mem_of_getElem? (i := 626) (by decide +kernel)⟩
theorem lw_p34 : lw_okq (⟨"HeadDeskModel", "isSame", "(IIII)Z"⟩, 38) := ⟨⟨by decide +kernel, by decide +kernel⟩, List.mem_of_getElem? (i := 451) (by decide +kernel), List.mem_of_getElem? (i := 632) (by decide +kernel), List.mem_of_getElem? (i := 633) (by decide +kernel)⟩
theorem lw_p35 : lw_okq (⟨"HeadDeskModel", "isNamed", "(Ljava/lang/String;)Z"⟩, 38) := ⟨⟨by decide +kernel, by decide +kernel⟩, List.mem_of_getElem? (i := 451) (by decide +kernel), List.mem_of_getElem? (i := 637) (by decide +kernel), List.mem_of_getElem? (i := 638) (by decide +kernel)⟩
theorem lw_p36 : lw_okq (⟨"HeadDeskModel", "range", "()V"⟩, 38) := ⟨⟨by decide +kernel, by decide +kernel⟩, List.mem_of_getElem? (i := 451) (by decide +kernel), List.mem_of_getElem? (i := 641) (by decide +kernel), List.mem_of_getElem? (i := 642) (by decide +kernel)⟩
theorem lw_p37 : lw_okq (⟨"HeadDeskModel", "matching", "()V"⟩, 38) := ⟨⟨by decide +kernel, by decide +kernel⟩, List.mem_of_getElem? (i := 451) (by decide +kernel), List.mem_of_getElem? (i := 648) (by decide +kernel), List.mem_of_getElem? (i := 649) (by decide +kernel)⟩
theorem lw_p38 : lw_okq (⟨"HeadDeskModel", "list", "(Z)V"⟩, 38) := ⟨⟨by decide +kernel, by decide +kernel⟩, List.mem_of_getElem? (i := 451) (by decide +kernel), List.mem_of_getElem? (i := 653) (by decide +kernel), List.mem_of_getElem? (i := 654) (by decide +kernel)⟩
theorem lw_p39 : lw_okq (⟨"HeadDeskModel", "requestWord", "()V"⟩, 38) := ⟨⟨by decide +kernel, by decide +kernel⟩, List.mem_of_getElem? (i := 451) (by decide +kernel), List.mem_of_getElem? (i := 657) (by decide +kernel), List.mem_of_getElem? (i := 658) (by decide +kernel)⟩
theorem lw_p40 : lw_okq (⟨"HeadDeskModel", "isWord", "(Ljava/lang/String;)Z"⟩, 38) := ⟨⟨by decide +kernel, by decide +kernel⟩, List.mem_of_getElem? (i := 451) (by decide +kernel), List.mem_of_getElem? (i := 662) (by decide +kernel), List.mem_of_getElem? (i := 663) (by decide +kernel)⟩
theorem lw_p41 : lw_okq (⟨"HeadDeskModel", "thingWord", "()V"⟩, 38) := ⟨⟨by decide +kernel, by decide +kernel⟩, List.mem_of_getElem? (i := 451) (by decide +kernel), List.mem_of_getElem? (i := 670) (by decide +kernel), List.mem_of_getElem? (i := 671) (by decide +kernel)⟩
theorem lw_p42 : lw_okq (⟨"HeadDeskModel", "keyLetters", "()V"⟩, 38) := ⟨⟨by decide +kernel, by decide +kernel⟩, List.mem_of_getElem? (i := 451) (by decide +kernel), List.mem_of_getElem? (i := 679) (by decide +kernel), List.mem_of_getElem? (i := 680) (by decide +kernel)⟩
theorem lw_p43 : lw_okq (⟨"HeadDeskModel", "anyValue", "()V"⟩, 38) := ⟨⟨by decide +kernel, by decide +kernel⟩, List.mem_of_getElem? (i := 451) (by decide +kernel), List.mem_of_getElem? (i := 683) (by decide +kernel), List.mem_of_getElem? (i := 684) (by decide +kernel)⟩
theorem lw_p44 : lw_okq (⟨"HeadDeskModel", "keep", "(Z)V"⟩, 38) := ⟨⟨by decide +kernel, by decide +kernel⟩, List.mem_of_getElem? (i := 451) (by decide +kernel), List.mem_of_getElem? (i := 687) (by decide +kernel), List.mem_of_getElem? (i := 688) (by decide +kernel)⟩
def lw_privs_3 : List (MethodName × Nat) := [(⟨"HeadDeskModel", "line", "(Z)V"⟩, 38), (⟨"HeadDeskModel", "name", "()Z"⟩, 38), (⟨"HeadDeskModel", "isSame", "(IIII)Z"⟩, 38), (⟨"HeadDeskModel", "isNamed", "(Ljava/lang/String;)Z"⟩, 38), (⟨"HeadDeskModel", "range", "()V"⟩, 38), (⟨"HeadDeskModel", "matching", "()V"⟩, 38), (⟨"HeadDeskModel", "list", "(Z)V"⟩, 38), (⟨"HeadDeskModel", "requestWord", "()V"⟩, 38), (⟨"HeadDeskModel", "isWord", "(Ljava/lang/String;)Z"⟩, 38), (⟨"HeadDeskModel", "thingWord", "()V"⟩, 38), (⟨"HeadDeskModel", "keyLetters", "()V"⟩, 38), (⟨"HeadDeskModel", "anyValue", "()V"⟩, 38), (⟨"HeadDeskModel", "keep", "(Z)V"⟩, 38)]
theorem lw_r3 : ∀ q ∈ lw_privs_3, lw_okq q := List.forall_mem_cons.mpr ⟨lw_p32, List.forall_mem_cons.mpr ⟨lw_p33, List.forall_mem_cons.mpr ⟨lw_p34, List.forall_mem_cons.mpr ⟨lw_p35, List.forall_mem_cons.mpr ⟨lw_p36, List.forall_mem_cons.mpr ⟨lw_p37, List.forall_mem_cons.mpr ⟨lw_p38, List.forall_mem_cons.mpr ⟨lw_p39, List.forall_mem_cons.mpr ⟨lw_p40, List.forall_mem_cons.mpr ⟨lw_p41, List.forall_mem_cons.mpr ⟨lw_p42, List.forall_mem_cons.mpr ⟨lw_p43, List.forall_mem_cons.mpr ⟨lw_p44, fun _ h => absurd h List.not_mem_nil⟩⟩⟩⟩⟩⟩⟩⟩⟩⟩⟩⟩⟩
def lw_privs : List (MethodName × Nat) := lw_privs_1 ++ (lw_privs_2 ++ (lw_privs_3))
def lw_tbl : List Cond := k2_sels lw_privs ++ tables_1
theorem lw_privs_ok : ∀ q ∈ lw_privs, lw_okq q := by
  show ∀ q ∈ lw_privs_1 ++ (lw_privs_2 ++ (lw_privs_3)), lw_okq q
  exact List.forall_mem_append.mpr ⟨lw_r1, List.forall_mem_append.mpr ⟨lw_r2, lw_r3⟩⟩
end
section
/-! ===== BEGIN exceptions that leave a method, and their catching by the caller (launches without stack traces) ===== -/
section VXA
/-! The laws vx_back, vx_callV, vx_callS, vx_callSW, vx_throw0, vx_throwS follow proofs of the library, with one case more: JvmDerived/Free/Laws.lean (Back.of_free), Shelf42/LK1.lean (callV, callS), Shelf/KitTraced.lean (throwNew0V, throwNewS). -/
/-- where a method has thrown q: the class by its name, the cell, what was written, the world -/
def vx_T (XC : String → State → State → Prop) (st : State) (q : Addr) (t : State) (mc ms : Nat) (free : Addr → Prop) : Prop :=
  ∃ (E : String) (ce : Cell) (L : List Loc), XC E st t ∧ t.heap[q]? = some ce ∧ ce.vm = .none ∧ st.vm.findClass E = some ce.cls ∧ st.WarmedH t.vm ∧ st.sameButNew ({ t with vm := st.vm } : State) L mc ms ∧ ∀ z ∈ L, free z.base
def vx_Q (Qc : Array Value → State → Outcome → State → Prop) (XC : String → State → State → Prop) (mc ms : Nat) (free : Addr → Prop) : Array Value → State → Outcome → State → Prop := fun a st o t =>
  (Qc a st o t ∧ ∃ L, FrameEnd st o t L mc ms ∧ ∀ q ∈ L, free q.base) ∨ ∃ q, o = .threw q ∧ vx_T XC st q t mc ms free
/-- a callee that returns or throws -/
def vx_Met (l : Launch) (y : MethodName) (ws : List Cond) (rm : Room) (Pc : Array Value → State → Prop) (Qc : Array Value → State → Outcome → State → Prop) (XC : String → State → State → Prop) (mc ms : Nat) (free : Addr → Prop) : Prop :=
  MetFree l y (headSpec ws rm) Pc (fun _ _ _ _ _ => True) (vx_Q Qc XC mc ms free)
def vx_Post (XC : String → State → State → Prop) (mc ms : Nat) (free : Addr → Prop) : Pt → Array Value → Addr → Pt → Prop := fun A a q B =>
  ∃ (g : JFrame) (mk : MethodId) (t : State) (L : List Loc) (E : String) (ce : Cell), B.U.heap = t.heap ∧ B.U.vm = t.vm ∧ XC E (A.U.calling g mk a) t ∧ t.heap[q]? = some ce ∧ ce.vm = .none ∧ A.U.vm.findClass E = some ce.cls ∧ B.locs = A.locs ++ L ∧ (∀ z ∈ L, free z.base) ∧ B.cells = A.cells + mc ∧ B.slots = A.slots + ms
def vx_Back (l : Launch) (R : Room) (p : Program) (e : Env) (below : List Frame) (s : State) (sargs : Array Value) (y : MethodName) (len W9 : Nat)
    (Pre : Pt → Array Value → Prop) (Post : Pt → Array Value → Option Value → Pt → Prop) (PostX : Pt → Array Value → Addr → Pt → Prop) : Prop :=
  ∀ (m : MethodId) (meth : Method) (c : Code) (A : Pt) (g : JFrame) (ig : Instr) (mk : MethodId) (a : Array Value),
    Stand p l e R s m sargs below meth c A.U A.locs A.cells A.slots → g.method = m → g.locals.size = c.maxLocals → decode c.code g.pc = .ok (ig, len) →
    2 * g.monitorRoom + (g.stack.map fun v => v.category).sum ≤ W9 → A.U.methodNamed? y = some mk → Pre A a →
    (∃ (v : Option Value) (B : Pt), Stand p l e R s m sargs below meth c B.U B.locs B.cells B.slots ∧ Post A a v B ∧
      Steps p.tables e below (doInvoke e (A.U.setTop g) [] mk a).1 (B.U.setTop { g with pc := g.pc + len, stack := v.toList ++ g.stack })) ∨
    (∃ (q : Addr) (B : Pt), Stand p l e R s m sargs below meth c B.U B.locs B.cells B.slots ∧ PostX A a q B ∧
      Steps p.tables e below (doInvoke e (A.U.setTop g) [] mk a).1 ((B.U.setTop g).pushFrame (.throwing q)))
section Payer
variable {l : Launch} {R : Room} {p : Program} {e : Env} {below : List Frame} {s : State} {sargs : Array Value} {y : MethodName} {len W9 : Nat}
theorem vx_back {ws : List Cond} {rm : Room} {Pc : Array Value → State → Prop} {Qc : Array Value → State → Outcome → State → Prop} {XC : String → State → State → Prop} {mc ms : Nat} {free : Addr → Prop} {bytes : ByteArray} {maxL : Nat} {ret : Option FieldType}
    (hM : vx_Met l y ws rm Pc Qc XC mc ms free) (hblind : FrameBlind Pc) (hrc : rm.cells = mc) (hrs : rm.slots = ms)
    (hframes : rm.frames + 1 ≤ R.frames) (hlocals : W9 + (maxL + 11) + rm.locals ≤ R.locals)
    (hws : ∀ w ∈ ws, ∀ a' U, s.WarmedH U.vm → w.before a' U = true) (hcode : Cond.code y bytes maxL ret ∈ ws) (hinit : ∀ a' U, s.WarmedH U.vm → (Cond.initialized y.cls).before a' U = true) :
    vx_Back l R p e below s sargs y len W9 (PreOf R mc ms Pc) (PostOf Qc mc ms free) (vx_Post XC mc ms free) := by
  intro m meth c A g ig mk a X hg hsize hdg hW hn hp
  have h1 : (headSpec ws rm).pre.before a A.U = true := atoms_intro fun w hw => hws w hw _ _ X.warmed
  have h2 : (Cond.code y bytes maxL ret).before a A.U = true := hws _ hcode _ _ X.warmed
  have h3 : (Cond.initialized y.cls).before a A.U = true := hinit _ _ X.warmed
  have h4 : A.cells + (headSpec ws rm).room.cells ≤ R.cells := by rw [show (headSpec ws rm).room.cells = mc from hrc]; exact hp.1
  have h5 : A.slots + (headSpec ws rm).room.slots ≤ R.slots := by rw [show (headSpec ws rm).room.slots = ms from hrs]; exact hp.2.1
  have hPc : Pc a (A.U.calling g mk a) := hblind _ _ _ _ hp.2.2
  obtain ⟨U, Ls, c0, s0⟩ := A
  dsimp only [Pt.U, Pt.locs, Pt.cells, Pt.slots] at h1 h2 h3 h4 h5 X hn hPc ⊢
  obtain ⟨methY, cY, hmY, hcY, -, hlY, -, -, -, -⟩ := Cond.code_spec hn h2
  obtain ⟨kY, hkY, -⟩ := className_of_methodNamed hn
  have hinitY : kY.init = .initialized := Cond.initialized_spec (findClass_of_methodNamed hn) hkY h3
  have h : At U g.method c below := by rw [hg]; exact X.here
  have hlocals9 : W9 + (maxL + 11) + (headSpec ws rm).room.locals ≤ R.locals := hlocals
  have happ : (headSpec ws rm).appliesLoose y e.platform (U.calling g mk a) = true :=
    Spec.appliesLoose_calling (g := g) h hdg hn hkY hinitY
      (X.room_calling (g := g) (R' := (headSpec ws rm).room) hsize hmY hcY hframes (by rw [hlY]; omega) h4 h5) h1
  obtain ⟨mid, hmid⟩ := h.above
  have hfr : (U.setTop g).frames = (.java g :: mid) ++ below := by rw [State.frames_setTop' g h.top, hmid]; rfl
  obtain ⟨o, s₂, hsteps, -, hend, hq⟩ := Steps.callFree hM p X.admits X.cas X.clock (acts := []) hfr happ hPc trivial
  have hq' : vx_Q Qc XC mc ms free a (U.calling g mk a) o s₂ := hq
  rw [State.frames_setTop' g h.top] at hend
  obtain ⟨g₀, hg0⟩ := Option.isSome_iff_exists.mp h.top
  obtain ⟨r, hr⟩ := State.topJava?_eq_some.mp hg0
  have hr' : (({ U with heap := s₂.heap, slotsUsed := s₂.slotsUsed } : State).setVm s₂.vm).frames = .java g₀ :: r := hr
  rcases hq' with ⟨hqc, L, hfe, hL⟩ | ⟨q, rfl, E, ce, L, hx, hce, hcv, hcl, hW₂, hsm, hL⟩
  · obtain ⟨⟨v, rfl⟩, hW₂, e2, q2, q3, q4, q5, q6⟩ := id hfe
    have e3 : s₂ = ({ (U.calling g mk a).setFrames s₂.frames with heap := s₂.heap, slotsUsed := s₂.slotsUsed } : State).setVm s₂.vm := by
      have : s₂ = ({ s₂ with vm := (U.calling g mk a).vm } : State).setVm s₂.vm := rfl
      rw [e2] at this
      exact this
    obtain ⟨c₂, i₂, len₂, hc₂, hd₂, hf₂⟩ := hend
    have hW' : U.WarmedH s₂.vm := hW₂
    have hcc : c₂ = c := by
      have h1 : s₂.code? g.method = U.code? g.method := by
        rw [State.code?_eq, State.code?_eq, hW'.alike.method?]
      exact Option.some.inj (hc₂.symm.trans (h1.trans h.code))
    subst hcc
    have hlen : len₂ = len := by rw [hdg] at hd₂; cases hd₂; rfl
    subst hlen
    have hs₂ : s₂ = (({ U with heap := s₂.heap, slotsUsed := s₂.slotsUsed } : State).setVm s₂.vm).setTop { g with pc := g.pc + len₂, stack := v.toList ++ g.stack } := by
      refine e3.trans ?_
      rw [hf₂, State.calling_eq h.top, State.setFrames_setFrames, State.setTop_of_frames _ hr', hr]
      rfl
    have hsame : U.sameButNew ({ U with heap := s₂.heap, slotsUsed := s₂.slotsUsed } : State) L mc ms := by
      refine ⟨?_, q2, q3, q4, q5, q6⟩
      obtain ⟨t, ht, -⟩ := State.frames_cons hr
      show ({ U with heap := s₂.heap, slotsUsed := s₂.slotsUsed } : State) = { U.setFrames U.frames with heap := s₂.heap, slotsUsed := s₂.slotsUsed }
      rw [State.setFrames_self ht]
    subst hg
    refine Or.inl ⟨v, ⟨(({ U with heap := s₂.heap, slotsUsed := s₂.slotsUsed } : State).setVm s₂.vm), Ls ++ L, c0 + mc, s0 + ms⟩,
      ⟨X.admits, X.cas, X.clock, X.frames, X.room, X.hears, X.method, X.code, (X.here.setHeapUsed s₂.heap s₂.slotsUsed).setVm hW'.alike, X.tail, State.WarmedH.trans X.warmed hW', X.limits, X.bytes, X.same.trans (hsame.setVm s.vm)⟩,
      ⟨g, mk, s₂, L, rfl, rfl, hqc, rfl, hL, rfl, rfl⟩, ?_⟩
    show Steps p.tables e below _ ((({ U with heap := s₂.heap, slotsUsed := s₂.slotsUsed } : State).setVm s₂.vm).setTop { g with pc := g.pc + len₂, stack := v.toList ++ g.stack })
    rw [← hs₂]
    exact hsteps
  · obtain ⟨e2, q2, q3, q4, q5, q6⟩ := id hsm
    have e3 : s₂ = ({ (U.calling g mk a).setFrames s₂.frames with heap := s₂.heap, slotsUsed := s₂.slotsUsed } : State).setVm s₂.vm := by
      have : s₂ = ({ s₂ with vm := (U.calling g mk a).vm } : State).setVm s₂.vm := rfl
      rw [e2] at this
      exact this
    have hf₂ : s₂.frames = .throwing q :: .java g :: U.frames.tail := hend
    have hW' : U.WarmedH s₂.vm := hW₂
    have hs₂ : s₂ = ((({ U with heap := s₂.heap, slotsUsed := s₂.slotsUsed } : State).setVm s₂.vm).setTop g).pushFrame (.throwing q) := by
      refine e3.trans ?_
      rw [hf₂, State.calling_eq h.top, State.setFrames_setFrames, State.pushFrame, State.frames_setTop _ hr', State.setTop_of_frames _ hr', State.setFrames_setFrames, hr]
      rfl
    have hsame : U.sameButNew ({ U with heap := s₂.heap, slotsUsed := s₂.slotsUsed } : State) L mc ms := by
      refine ⟨?_, q2, q3, q4, q5, q6⟩
      obtain ⟨t, ht, -⟩ := State.frames_cons hr
      show ({ U with heap := s₂.heap, slotsUsed := s₂.slotsUsed } : State) = { U.setFrames U.frames with heap := s₂.heap, slotsUsed := s₂.slotsUsed }
      rw [State.setFrames_self ht]
    subst hg
    refine Or.inr ⟨q, ⟨(({ U with heap := s₂.heap, slotsUsed := s₂.slotsUsed } : State).setVm s₂.vm), Ls ++ L, c0 + mc, s0 + ms⟩,
      ⟨X.admits, X.cas, X.clock, X.frames, X.room, X.hears, X.method, X.code, (X.here.setHeapUsed s₂.heap s₂.slotsUsed).setVm hW'.alike, X.tail, State.WarmedH.trans X.warmed hW', X.limits, X.bytes, X.same.trans (hsame.setVm s.vm)⟩,
      ⟨g, mk, s₂, L, E, ce, rfl, rfl, hx, hce, hcv, hcl, rfl, hL, rfl, rfl⟩, ?_⟩
    show Steps p.tables e below _ (((({ U with heap := s₂.heap, slotsUsed := s₂.slotsUsed } : State).setVm s₂.vm).setTop g).pushFrame (.throwing q))
    rw [← hs₂]
    exact hsteps
end Payer
section Calls
variable {p : Program} {l : Launch} {e : Env} {R : Room} {s : State} {m : MethodId} {args : Array Value} {below : List Frame} {meth : Method} {c : Code} {T : State} {locs : List Loc} {cells slots : Nat}
theorem vx_callV (X : Stand p l e R s m args below meth c T locs cells slots) (hexec : p.tables.exec = Jvm.exec) {own C : String} {index : Nat} {y : MethodName} {bytes : ByteArray} {maxL : Nat} {ret : Option FieldType}
    (hown : s.vm.findClass own = some m.cls) (hlink : (Cond.methodLink own index y).before args s = true) (hinst : (Cond.instanceMethod y).before args s = true) (hsel : (Cond.selects C y y).before args s = true)
    (hcode : (Cond.code y bytes maxL ret).before args s = true) (hy : y.cls ≠ "java/lang/invoke/MethodHandle" ∧ y.cls ≠ "java/lang/invoke/VarHandle")
    {W9 : Nat} {Pre : Pt → Array Value → Prop} {Post : Pt → Array Value → Option Value → Pt → Prop} {PostX : Pt → Array Value → Addr → Pt → Prop} (hK : vx_Back l R p e below s args y 3 W9 Pre Post PostX)
    {b : Addr} {cellB : Cell} (hcell : T.heap[b]? = some cellB) (hobj : cellB.vm.isStatics = false) (hcls : s.vm.findClass C = some cellB.cls)
    {g : JFrame} (hg : g.method = m) (hsize : g.locals.size = c.maxLocals) {argsL rest : List Value} (hlen : ∀ sig, parseMethodDescriptor y.desc = some sig → argsL.length = sig.parameters.length)
    (hstack : g.stack = argsL.reverse ++ .ref b :: rest) (hW : 2 * g.monitorRoom + (rest.map fun v => v.category).sum ≤ W9) (hdg : decode c.code g.pc = .ok (.invokevirtual index, 3))
    (hpre : ∀ vm₁, s.WarmedH vm₁ → Pre ⟨T.setVm vm₁, locs, cells, slots⟩ (Value.ref b :: argsL).toArray) :
    (∃ (v : Option Value) (vm₁ : Vm) (B : Pt), s.WarmedH vm₁ ∧ Stand p l e R s m args below meth c B.U B.locs B.cells B.slots ∧ Post ⟨T.setVm vm₁, locs, cells, slots⟩ (Value.ref b :: argsL).toArray v B ∧
      ∀ target, Steps p.tables e below (B.U.setTop { g with pc := g.pc + 3, stack := v.toList ++ rest }) target → Steps p.tables e below (T.setTop g) target) ∨
    (∃ (q : Addr) (vm₁ : Vm) (B : Pt), s.WarmedH vm₁ ∧ Stand p l e R s m args below meth c B.U B.locs B.cells B.slots ∧ PostX ⟨T.setVm vm₁, locs, cells, slots⟩ (Value.ref b :: argsL).toArray q B ∧
      Steps p.tables e below (T.setTop g) ((B.U.setTop { g with stack := rest }).pushFrame (.throwing q))) := by
  obtain ⟨mk, methM, hnamed, hmethM, hstM, habM⟩ := Cond.instanceMethod_spec hinst
  obtain ⟨methM', cM, hmethM', -, -, -, -, -, -, hsigM⟩ := Cond.code_spec hnamed hcode
  cases hmethM.symm.trans hmethM'
  obtain ⟨c2, r2, m2, q1, q2, q3, q4, kP, hkP, hkPi⟩ := Cond.selects_spec hsel
  cases hcls.symm.trans q1
  cases (State.methodFound?_of_named hnamed hy).symm.trans q2
  cases hnamed.symm.trans q3
  have hselP : selectMethod e.platform s.vm cellB.cls mk = .method mk := by rw [Launch.admits_selectMethod X.admits]; exact q4
  obtain ⟨vm₁, X₁, hstep₁⟩ := X.invokevirtual hexec hown hlink hnamed hmethM hstM hkP hkPi hy (a := b) (cell := cellB) hcell
    (fun z h => by rw [h] at hobj; cases hobj) hselP hmethM habM hkP hkPi (g := g) hg (argsL := argsL) (rest := rest) (hlen _ hsigM) hstack hdg
  rcases hK m meth c ⟨T.setVm vm₁, locs, cells, slots⟩ { g with stack := rest } (.invokevirtual index) mk (Value.ref b :: argsL).toArray X₁ hg hsize hdg hW (X₁.named hnamed) (hpre vm₁ X₁.warmed) with ⟨v, B, X', hpost, hsteps⟩ | ⟨q, B, X', hpost, hsteps⟩
  · exact Or.inl ⟨v, vm₁, B, X₁.warmed, X', hpost, fun target h => hstep₁ _ fun acts => by rw [doInvoke_state]; exact hsteps.trans h⟩
  · exact Or.inr ⟨q, vm₁, B, X₁.warmed, X', hpost, hstep₁ _ fun acts => by rw [doInvoke_state]; exact hsteps⟩
theorem vx_callS (X : Stand p l e R s m args below meth c T locs cells slots) (hexec : p.tables.exec = Jvm.exec) {own : String} {index : Nat} {y : MethodName} {bytes : ByteArray} {maxL : Nat} {ret : Option FieldType}
    (hown : s.vm.findClass own = some m.cls) (hlink : (Cond.methodLink own index y).before args s = true) (hstat : (Cond.static y).before args s = true) (hinit : (Cond.initialized y.cls).before args s = true)
    (hcode : (Cond.code y bytes maxL ret).before args s = true) (hy : y.cls ≠ "java/lang/invoke/MethodHandle" ∧ y.cls ≠ "java/lang/invoke/VarHandle")
    {W9 : Nat} {Pre : Pt → Array Value → Prop} {Post : Pt → Array Value → Option Value → Pt → Prop} {PostX : Pt → Array Value → Addr → Pt → Prop} (hK : vx_Back l R p e below s args y 3 W9 Pre Post PostX)
    {g : JFrame} (hg : g.method = m) (hsize : g.locals.size = c.maxLocals) {argsL rest : List Value} (hlen : ∀ sig, parseMethodDescriptor y.desc = some sig → argsL.length = sig.parameters.length)
    (hstack : g.stack = argsL.reverse ++ rest) (hW : 2 * g.monitorRoom + (rest.map fun v => v.category).sum ≤ W9) (hdg : decode c.code g.pc = .ok (.invokestatic index, 3))
    (hpre : ∀ vm₁, s.WarmedH vm₁ → Pre ⟨T.setVm vm₁, locs, cells, slots⟩ argsL.toArray) :
    (∃ (v : Option Value) (vm₁ : Vm) (B : Pt), s.WarmedH vm₁ ∧ Stand p l e R s m args below meth c B.U B.locs B.cells B.slots ∧ Post ⟨T.setVm vm₁, locs, cells, slots⟩ argsL.toArray v B ∧
      ∀ target, Steps p.tables e below (B.U.setTop { g with pc := g.pc + 3, stack := v.toList ++ rest }) target → Steps p.tables e below (T.setTop g) target) ∨
    (∃ (q : Addr) (vm₁ : Vm) (B : Pt), s.WarmedH vm₁ ∧ Stand p l e R s m args below meth c B.U B.locs B.cells B.slots ∧ PostX ⟨T.setVm vm₁, locs, cells, slots⟩ argsL.toArray q B ∧
      Steps p.tables e below (T.setTop g) ((B.U.setTop { g with stack := rest }).pushFrame (.throwing q))) := by
  obtain ⟨mk, hnamed⟩ := Cond.code_named hcode
  obtain ⟨methM, cM, hmethM, -, -, -, -, -, -, hsigM⟩ := Cond.code_spec hnamed hcode
  have hstatic : methM.isStatic = true := Cond.static_spec hnamed hmethM hstat
  obtain ⟨kP, hkP, -⟩ := className_of_methodNamed hnamed
  have hinitP : kP.init = .initialized := Cond.initialized_spec (findClass_of_methodNamed hnamed) hkP hinit
  obtain ⟨vm₁, X₁, hstep₁⟩ := X.invokestatic hexec hown hlink hnamed hmethM hstatic hkP hinitP hy (g := g) hg (argsL := argsL) (rest := rest) (hlen _ hsigM) hstack hdg
  rcases hK m meth c ⟨T.setVm vm₁, locs, cells, slots⟩ { g with stack := rest } (.invokestatic index) mk argsL.toArray X₁ hg hsize hdg hW (X₁.named hnamed) (hpre vm₁ X₁.warmed) with ⟨v, B, X', hpost, hsteps⟩ | ⟨q, B, X', hpost, hsteps⟩
  · exact Or.inl ⟨v, vm₁, B, X₁.warmed, X', hpost, fun target h => hstep₁ _ fun acts => by rw [doInvoke_state]; exact hsteps.trans h⟩
  · exact Or.inr ⟨q, vm₁, B, X₁.warmed, X', hpost, hstep₁ _ fun acts => by rw [doInvoke_state]; exact hsteps⟩
end Calls
theorem vx_cls {s : State} {T : State} {vm₁ : Vm} {E : String} {k : ClassId} (hW : s.WarmedH vm₁) (h : (T.setVm vm₁).vm.findClass E = some k) : s.vm.findClass E = some k := by
  have h1 : vm₁.findClass E = some k := h
  rw [hW.alike.findClass] at h1
  exact h1
/-- the method's frame g, with q thrown over it -/
def vx_W (p : Program) (l : Launch) (e : Env) (R : Room) (s : State) (m : MethodId) (args : Array Value) (below : List Frame) (meth : Method) (c : Code) (H : Heap) (locs : List Loc) (cells slots : Nat) (Q : State → Prop) (g : JFrame) (q : Addr) : Prop :=
  ∀ T : State, T.heap = H → Stand p l e R s m args below meth c T locs cells slots → ∃ t, Steps p.tables e below ((T.setTop g).pushFrame (.throwing q)) t ∧ Q t
def vx_Run (p : Program) (l : Launch) (e : Env) (R : Room) (s : State) (m : MethodId) (args : Array Value) (below : List Frame) (meth : Method) (c : Code) (H : Heap) (locs : List Loc) (cells slots mc ms : Nat) (g : JFrame) (rest : List Value) (Qa : State → Outcome → State → Prop) (XC : String → State → State → Prop) (free : Addr → Prop) : Prop :=
  ∀ T : State, T.heap = H → Stand p l e R s m args below meth c T locs cells slots →
    (∃ (v : Option Value) (st₀ t T' : State) (L : List Loc), st₀.heap = H ∧ Stand p l e R s m args below meth c T' (locs ++ L) (cells + mc) (slots + ms) ∧ (∀ q ∈ L, free q.base) ∧ T'.heap = t.heap ∧ T'.vm = t.vm ∧ Qa st₀ (.returned v) t ∧
      Goes p e below T g T' { g with pc := g.pc + 3, stack := v.toList ++ rest }) ∨
    (∃ (q : Addr) (st₀ t T' : State) (L : List Loc) (E : String) (ce : Cell), st₀.heap = H ∧ Stand p l e R s m args below meth c T' (locs ++ L) (cells + mc) (slots + ms) ∧ (∀ z ∈ L, free z.base) ∧ T'.heap = t.heap ∧ T'.vm = t.vm ∧ XC E st₀ t ∧ t.heap[q]? = some ce ∧ ce.vm = .none ∧ s.vm.findClass E = some ce.cls ∧
      Steps p.tables e below (T.setTop g) ((T'.setTop { g with stack := rest }).pushFrame (.throwing q)))
def vx_X {S : Type} (px : S → Prop) (B : String → S → State → Prop) (A : Nat → Prop) : String → State → State → Prop := fun E st t => ∃ u : S, px u ∧ B E u t ∧ va_F A st t
section Runs
variable {p : Program} {l : Launch} {e : Env} {R : Room} {s : State} {m : MethodId} {args : Array Value} {below : List Frame} {meth : Method} {c : Code} {H : Heap} {locs : List Loc} {cells slots : Nat}
variable {y : MethodName} {bytes cc : ByteArray} {maxL nL mc ms n index : Nat} {ret : Option FieldType} {ws : List Cond} {rm : Room} {Pc : Array Value → State → Prop} {Qc : Array Value → State → Outcome → State → Prop} {XC : String → State → State → Prop} {free : Addr → Prop} {Ts : List Cond} {own C : String} {b : Addr} {As rest : List Value} {g : JFrame}
theorem vx_callBack (cb : CallB R s args own index y bytes maxL ret ws rm mc ms n) (hM : vx_Met l y ws rm Pc Qc XC mc ms free) (hbl : FrameBlind Pc) : vx_Back l R p e below s args y 3 8 (PreOf R mc ms Pc) (PostOf Qc mc ms free) (vx_Post XC mc ms free) := by
  obtain ⟨hrc, hrs, hfr, hlo, hws, hcw, -, hini, -⟩ := cb
  exact vx_back (bytes := bytes) (maxL := maxL) (ret := ret) hM hbl hrc hrs hfr hlo hws hcw (fun a' U hW => word_at hW (Or.inl (by first | rfl | simp [Cond.onTables, Cond.keeps, Cond.steady])) hini)
theorem vx_runV (S : CallFix p m c cc nL s args Ts own) (hM : vx_Met l y ws rm Pc Qc XC mc ms free) (cw : CallW R s args own C index y bytes maxL ret ws rm mc ms n) (hp : PreV s H C b Pc As)
    (hg : g.method = m) (hn : As.length = n) (hsize : g.locals.size = nL) (hstack : g.stack = As.reverse ++ .ref b :: rest) (hW : 2 * g.monitorRoom + (rest.map fun v => v.category).sum ≤ 8) (hdg : decode cc g.pc = .ok (.invokevirtual index, 3)) (hf : cells + mc ≤ R.cells ∧ slots + ms ≤ R.slots) :
    vx_Run p l e R s m args below meth c H locs cells slots mc ms g rest (Qc (Value.ref b :: As).toArray) XC free := by
  have hK : vx_Back l R p e below s args y 3 8 (PreOf R mc ms Pc) (PostOf Qc mc ms free) (vx_Post XC mc ms free) := vx_callBack cw.1 hM hp.1
  obtain ⟨⟨-, -, -, -, -, -, hcode, -, hy, hlen, hl⟩, hin, hse⟩ := cw
  obtain ⟨hx, hb, hml, ho, -⟩ := S
  obtain ⟨-, ⟨cellB, hcB, hoB, hclB⟩, hPc⟩ := hp
  intro T hT X
  rcases vx_callV X hx (C := C) (bytes := bytes) (maxL := maxL) (ret := ret) ho hl hin hse hcode hy hK (by rw [hT]; exact hcB) hoB hclB hg (hsize.trans hml.symm) (argsL := As) (rest := rest) (fun sig h => hn.trans (hlen sig h)) hstack hW (by rw [hb]; exact hdg)
    (fun vm₁ hW₁ => ⟨hf.1, hf.2, hPc (T.setVm vm₁) hT hW₁⟩) with ⟨v, vm₁, ⟨U', l2, c2, s2⟩, hW₁, X', ⟨g', mk, t, L, e1, e2, hq, h1, hL, h2, h3⟩, st⟩ | ⟨q, vm₁, ⟨U', l2, c2, s2⟩, hW₁, X', ⟨g', mk, t, L, E, ce, e1, e2, hq, hce, hcv, hcl, h1, hL, h2, h3⟩, st⟩
  · dsimp only [Pt.U, Pt.locs, Pt.cells, Pt.slots] at X' e1 e2 h1 h2 h3 st
    subst h1; subst h2; subst h3
    exact Or.inl ⟨v, (T.setVm vm₁).calling g' mk (Value.ref b :: As).toArray, t, U', L, hT, X', hL, e1, e2, hq, st⟩
  · dsimp only [Pt.U, Pt.locs, Pt.cells, Pt.slots] at X' e1 e2 h1 h2 h3 st hcl
    subst h1; subst h2; subst h3
    exact Or.inr ⟨q, (T.setVm vm₁).calling g' mk (Value.ref b :: As).toArray, t, U', L, E, ce, hT, X', hL, e1, e2, hq, hce, hcv, vx_cls hW₁ hcl, st⟩
theorem vx_runS (S : CallFix p m c cc nL s args Ts own) (hM : vx_Met l y ws rm Pc Qc XC mc ms free) (cw : CallB R s args own index y bytes maxL ret ws rm mc ms n ∧ (Cond.static y).before args s = true) (hp : PreS s H Pc As)
    (hg : g.method = m) (hn : As.length = n) (hsize : g.locals.size = nL) (hstack : g.stack = As.reverse ++ rest) (hW : 2 * g.monitorRoom + (rest.map fun v => v.category).sum ≤ 8) (hdg : decode cc g.pc = .ok (.invokestatic index, 3)) (hf : cells + mc ≤ R.cells ∧ slots + ms ≤ R.slots) :
    vx_Run p l e R s m args below meth c H locs cells slots mc ms g rest (Qc As.toArray) XC free := by
  have hK : vx_Back l R p e below s args y 3 8 (PreOf R mc ms Pc) (PostOf Qc mc ms free) (vx_Post XC mc ms free) := vx_callBack cw.1 hM hp.1
  obtain ⟨⟨-, -, -, -, -, -, hcode, hini, hy, hlen, hl⟩, hstt⟩ := cw
  obtain ⟨hx, hb, hml, ho, -⟩ := S
  intro T hT X
  rcases vx_callS X hx (bytes := bytes) (maxL := maxL) (ret := ret) ho hl hstt hini hcode hy hK hg (hsize.trans hml.symm) (argsL := As) (rest := rest) (fun sig h => hn.trans (hlen sig h)) hstack hW (by rw [hb]; exact hdg)
    (fun vm₁ hW₁ => ⟨hf.1, hf.2, hp.2 (T.setVm vm₁) hT hW₁⟩) with ⟨v, vm₁, ⟨U', l2, c2, s2⟩, hW₁, X', ⟨g', mk, t, L, e1, e2, hq, h1, hL, h2, h3⟩, st⟩ | ⟨q, vm₁, ⟨U', l2, c2, s2⟩, hW₁, X', ⟨g', mk, t, L, E, ce, e1, e2, hq, hce, hcv, hcl, h1, hL, h2, h3⟩, st⟩
  · dsimp only [Pt.U, Pt.locs, Pt.cells, Pt.slots] at X' e1 e2 h1 h2 h3 st
    subst h1; subst h2; subst h3
    exact Or.inl ⟨v, (T.setVm vm₁).calling g' mk As.toArray, t, U', L, hT, X', hL, e1, e2, hq, st⟩
  · dsimp only [Pt.U, Pt.locs, Pt.cells, Pt.slots] at X' e1 e2 h1 h2 h3 st hcl
    subst h1; subst h2; subst h3
    exact Or.inr ⟨q, (T.setVm vm₁).calling g' mk As.toArray, t, U', L, E, ce, hT, X', hL, e1, e2, hq, hce, hcv, vx_cls hW₁ hcl, st⟩
end Runs
section Rows
variable {p : Program} {l : Launch} {e : Env} {R : Room} {s : State} {m : MethodId} {args : Array Value} {below : List Frame} {meth : Method} {c : Code} {H : Heap} {locs : List Loc} {cells slots : Nat} {Q : State → Prop}
variable {mc ms : Nat} {free : Addr → Prop} {A0 A1 : Nat → Prop} {H0 : Heap} {a : Array Value} {pc : Nat} {ls : Array Slot} {st0 rest : List Value}
theorem vx_keep {st₀ t T' : State} {L : List Loc} (h0 : st₀.heap = H) (e1 : T'.heap = t.heap) (hS : va_S A0 H0 H locs) (hA : ∀ q, q < H.size → A1 q → A0 q) (hf : ∀ q, free q → A0 q) (hL : ∀ q ∈ L, free q.base) (hF : va_F A1 st₀ t) :
    H.size ≤ T'.heap.size ∧ (∀ q : Nat, q < H.size → ¬ A1 q → T'.heap[q]? = H[q]?) ∧ va_S A0 H0 T'.heap (locs ++ L) := by
  obtain ⟨hz, hk⟩ := hF
  rw [h0] at hz hk
  exact ⟨by rw [e1]; exact hz, fun q h1 h2 => by rw [e1]; exact hk q h1 h2,
    ⟨Nat.le_trans hS.1 (by rw [e1]; exact hz), fun q h1 h2 => by rw [e1, hk q (Nat.lt_of_lt_of_le h1 hS.1) (fun z => h2 (hA q (Nat.lt_of_lt_of_le h1 hS.1) z))]; exact hS.2.1 q h1 h2, fun q hq => by
      rcases List.mem_append.mp hq with h | h
      · exact hS.2.2 q h
      · exact hf _ (hL q h)⟩⟩
theorem vx_calli {S SX : Type} {post : Int32 → S → Prop} {px : SX → Prop} {B : S → State → Prop} {BX : String → SX → State → Prop} {AX : Nat → Prop} (hr : vx_Run p l e R s m args below meth c H locs cells slots mc ms (F0 m pc ls st0) rest (va_Qi post B A1 a) (vx_X px BX AX) free) (hS : va_S A0 H0 H locs) (hA : ∀ q, q < H.size → A1 q → A0 q) (hf : ∀ q, free q → A0 q) (hAX : ∀ q, q < H.size → AX q → A0 q)
    (kx : ∀ (E : String) (ce : Cell) (q9 : Addr) (u : SX) (t : State) (H1 : Heap) (locs1 : List Loc), t.heap = H1 → s.vm.Alike t.vm → px u → BX E u t → H.size ≤ H1.size → (∀ q : Nat, q < H.size → ¬ AX q → H1[q]? = H[q]?) → va_S A0 H0 H1 locs1 → H1[q9]? = some ce → ce.vm = .none → s.vm.findClass E = some ce.cls → vx_W p l e R s m args below meth c H1 locs1 (cells + mc) (slots + ms) Q (F0 m pc ls rest) q9)
    (kk : ∀ (r : Int32) (u : S) (t : State) (H1 : Heap) (locs1 : List Loc), t.heap = H1 → s.vm.Alike t.vm → post r u → B u t → H.size ≤ H1.size → (∀ q : Nat, q < H.size → ¬ A1 q → H1[q]? = H[q]?) → va_S A0 H0 H1 locs1 → W p l e R s m args below meth c H1 locs1 (cells + mc) (slots + ms) Q (F0 m (pc + 3) ls (.int r :: rest))) : W p l e R s m args below meth c H locs cells slots Q (F0 m pc ls st0) := by
  intro T hT X
  rcases hr T hT X with ⟨v, st₀, t, T', L, h0, X', hL, e1, e2, ⟨⟨r, u, hv, hp, hb⟩, hF⟩, st⟩ | ⟨q, st₀, t, T', L, E, ce, h0, X', hL, e1, e2, ⟨u, hp, hb, hF⟩, hce, hcv, hcl, st⟩
  · cases hv
    obtain ⟨k1, k2, k3⟩ := vx_keep h0 e1 hS hA hf hL hF
    obtain ⟨t2, a1, b1⟩ := kk r u t T'.heap (locs ++ L) e1.symm (by rw [← e2]; exact X'.warmed.alike) hp hb k1 k2 k3 T' rfl X'
    exact ⟨t2, st t2 a1, b1⟩
  · obtain ⟨k1, k2, k3⟩ := vx_keep h0 e1 hS hAX hf hL hF
    obtain ⟨t2, a1, b1⟩ := kx E ce q u t T'.heap (locs ++ L) e1.symm (by rw [← e2]; exact X'.warmed.alike) hp hb k1 k2 k3 (by rw [e1]; exact hce) hcv hcl T' rfl X'
    exact ⟨t2, st.trans a1, b1⟩
theorem vx_calll {S SX : Type} {post : Int64 → S → Prop} {px : SX → Prop} {B : S → State → Prop} {BX : String → SX → State → Prop} {AX : Nat → Prop} (hr : vx_Run p l e R s m args below meth c H locs cells slots mc ms (F0 m pc ls st0) rest (va_Ql post B A1 a) (vx_X px BX AX) free) (hS : va_S A0 H0 H locs) (hA : ∀ q, q < H.size → A1 q → A0 q) (hf : ∀ q, free q → A0 q) (hAX : ∀ q, q < H.size → AX q → A0 q)
    (kx : ∀ (E : String) (ce : Cell) (q9 : Addr) (u : SX) (t : State) (H1 : Heap) (locs1 : List Loc), t.heap = H1 → s.vm.Alike t.vm → px u → BX E u t → H.size ≤ H1.size → (∀ q : Nat, q < H.size → ¬ AX q → H1[q]? = H[q]?) → va_S A0 H0 H1 locs1 → H1[q9]? = some ce → ce.vm = .none → s.vm.findClass E = some ce.cls → vx_W p l e R s m args below meth c H1 locs1 (cells + mc) (slots + ms) Q (F0 m pc ls rest) q9)
    (kk : ∀ (r : Int64) (u : S) (t : State) (H1 : Heap) (locs1 : List Loc), t.heap = H1 → s.vm.Alike t.vm → post r u → B u t → H.size ≤ H1.size → (∀ q : Nat, q < H.size → ¬ A1 q → H1[q]? = H[q]?) → va_S A0 H0 H1 locs1 → W p l e R s m args below meth c H1 locs1 (cells + mc) (slots + ms) Q (F0 m (pc + 3) ls (.long r :: rest))) : W p l e R s m args below meth c H locs cells slots Q (F0 m pc ls st0) := by
  intro T hT X
  rcases hr T hT X with ⟨v, st₀, t, T', L, h0, X', hL, e1, e2, ⟨⟨r, u, hv, hp, hb⟩, hF⟩, st⟩ | ⟨q, st₀, t, T', L, E, ce, h0, X', hL, e1, e2, ⟨u, hp, hb, hF⟩, hce, hcv, hcl, st⟩
  · cases hv
    obtain ⟨k1, k2, k3⟩ := vx_keep h0 e1 hS hA hf hL hF
    obtain ⟨t2, a1, b1⟩ := kk r u t T'.heap (locs ++ L) e1.symm (by rw [← e2]; exact X'.warmed.alike) hp hb k1 k2 k3 T' rfl X'
    exact ⟨t2, st t2 a1, b1⟩
  · obtain ⟨k1, k2, k3⟩ := vx_keep h0 e1 hS hAX hf hL hF
    obtain ⟨t2, a1, b1⟩ := kx E ce q u t T'.heap (locs ++ L) e1.symm (by rw [← e2]; exact X'.warmed.alike) hp hb k1 k2 k3 (by rw [e1]; exact hce) hcv hcl T' rfl X'
    exact ⟨t2, st.trans a1, b1⟩
theorem vx_callf {S SX : Type} {post : UInt32 → S → Prop} {px : SX → Prop} {B : S → State → Prop} {BX : String → SX → State → Prop} {AX : Nat → Prop} (hr : vx_Run p l e R s m args below meth c H locs cells slots mc ms (F0 m pc ls st0) rest (va_Qf post B A1 a) (vx_X px BX AX) free) (hS : va_S A0 H0 H locs) (hA : ∀ q, q < H.size → A1 q → A0 q) (hf : ∀ q, free q → A0 q) (hAX : ∀ q, q < H.size → AX q → A0 q)
    (kx : ∀ (E : String) (ce : Cell) (q9 : Addr) (u : SX) (t : State) (H1 : Heap) (locs1 : List Loc), t.heap = H1 → s.vm.Alike t.vm → px u → BX E u t → H.size ≤ H1.size → (∀ q : Nat, q < H.size → ¬ AX q → H1[q]? = H[q]?) → va_S A0 H0 H1 locs1 → H1[q9]? = some ce → ce.vm = .none → s.vm.findClass E = some ce.cls → vx_W p l e R s m args below meth c H1 locs1 (cells + mc) (slots + ms) Q (F0 m pc ls rest) q9)
    (kk : ∀ (r : UInt32) (u : S) (t : State) (H1 : Heap) (locs1 : List Loc), t.heap = H1 → s.vm.Alike t.vm → post r u → B u t → H.size ≤ H1.size → (∀ q : Nat, q < H.size → ¬ A1 q → H1[q]? = H[q]?) → va_S A0 H0 H1 locs1 → W p l e R s m args below meth c H1 locs1 (cells + mc) (slots + ms) Q (F0 m (pc + 3) ls (.float r :: rest))) : W p l e R s m args below meth c H locs cells slots Q (F0 m pc ls st0) := by
  intro T hT X
  rcases hr T hT X with ⟨v, st₀, t, T', L, h0, X', hL, e1, e2, ⟨⟨r, u, hv, hp, hb⟩, hF⟩, st⟩ | ⟨q, st₀, t, T', L, E, ce, h0, X', hL, e1, e2, ⟨u, hp, hb, hF⟩, hce, hcv, hcl, st⟩
  · cases hv
    obtain ⟨k1, k2, k3⟩ := vx_keep h0 e1 hS hA hf hL hF
    obtain ⟨t2, a1, b1⟩ := kk r u t T'.heap (locs ++ L) e1.symm (by rw [← e2]; exact X'.warmed.alike) hp hb k1 k2 k3 T' rfl X'
    exact ⟨t2, st t2 a1, b1⟩
  · obtain ⟨k1, k2, k3⟩ := vx_keep h0 e1 hS hAX hf hL hF
    obtain ⟨t2, a1, b1⟩ := kx E ce q u t T'.heap (locs ++ L) e1.symm (by rw [← e2]; exact X'.warmed.alike) hp hb k1 k2 k3 (by rw [e1]; exact hce) hcv hcl T' rfl X'
    exact ⟨t2, st.trans a1, b1⟩
theorem vx_calld {S SX : Type} {post : UInt64 → S → Prop} {px : SX → Prop} {B : S → State → Prop} {BX : String → SX → State → Prop} {AX : Nat → Prop} (hr : vx_Run p l e R s m args below meth c H locs cells slots mc ms (F0 m pc ls st0) rest (va_Qd post B A1 a) (vx_X px BX AX) free) (hS : va_S A0 H0 H locs) (hA : ∀ q, q < H.size → A1 q → A0 q) (hf : ∀ q, free q → A0 q) (hAX : ∀ q, q < H.size → AX q → A0 q)
    (kx : ∀ (E : String) (ce : Cell) (q9 : Addr) (u : SX) (t : State) (H1 : Heap) (locs1 : List Loc), t.heap = H1 → s.vm.Alike t.vm → px u → BX E u t → H.size ≤ H1.size → (∀ q : Nat, q < H.size → ¬ AX q → H1[q]? = H[q]?) → va_S A0 H0 H1 locs1 → H1[q9]? = some ce → ce.vm = .none → s.vm.findClass E = some ce.cls → vx_W p l e R s m args below meth c H1 locs1 (cells + mc) (slots + ms) Q (F0 m pc ls rest) q9)
    (kk : ∀ (r : UInt64) (u : S) (t : State) (H1 : Heap) (locs1 : List Loc), t.heap = H1 → s.vm.Alike t.vm → post r u → B u t → H.size ≤ H1.size → (∀ q : Nat, q < H.size → ¬ A1 q → H1[q]? = H[q]?) → va_S A0 H0 H1 locs1 → W p l e R s m args below meth c H1 locs1 (cells + mc) (slots + ms) Q (F0 m (pc + 3) ls (.double r :: rest))) : W p l e R s m args below meth c H locs cells slots Q (F0 m pc ls st0) := by
  intro T hT X
  rcases hr T hT X with ⟨v, st₀, t, T', L, h0, X', hL, e1, e2, ⟨⟨r, u, hv, hp, hb⟩, hF⟩, st⟩ | ⟨q, st₀, t, T', L, E, ce, h0, X', hL, e1, e2, ⟨u, hp, hb, hF⟩, hce, hcv, hcl, st⟩
  · cases hv
    obtain ⟨k1, k2, k3⟩ := vx_keep h0 e1 hS hA hf hL hF
    obtain ⟨t2, a1, b1⟩ := kk r u t T'.heap (locs ++ L) e1.symm (by rw [← e2]; exact X'.warmed.alike) hp hb k1 k2 k3 T' rfl X'
    exact ⟨t2, st t2 a1, b1⟩
  · obtain ⟨k1, k2, k3⟩ := vx_keep h0 e1 hS hAX hf hL hF
    obtain ⟨t2, a1, b1⟩ := kx E ce q u t T'.heap (locs ++ L) e1.symm (by rw [← e2]; exact X'.warmed.alike) hp hb k1 k2 k3 (by rw [e1]; exact hce) hcv hcl T' rfl X'
    exact ⟨t2, st.trans a1, b1⟩
theorem vx_callv {S SX : Type} {post : S → Prop} {px : SX → Prop} {B : S → State → Prop} {BX : String → SX → State → Prop} {AX : Nat → Prop} (hr : vx_Run p l e R s m args below meth c H locs cells slots mc ms (F0 m pc ls st0) rest (va_Qv post B A1 a) (vx_X px BX AX) free) (hS : va_S A0 H0 H locs) (hA : ∀ q, q < H.size → A1 q → A0 q) (hf : ∀ q, free q → A0 q) (hAX : ∀ q, q < H.size → AX q → A0 q)
    (kx : ∀ (E : String) (ce : Cell) (q9 : Addr) (u : SX) (t : State) (H1 : Heap) (locs1 : List Loc), t.heap = H1 → s.vm.Alike t.vm → px u → BX E u t → H.size ≤ H1.size → (∀ q : Nat, q < H.size → ¬ AX q → H1[q]? = H[q]?) → va_S A0 H0 H1 locs1 → H1[q9]? = some ce → ce.vm = .none → s.vm.findClass E = some ce.cls → vx_W p l e R s m args below meth c H1 locs1 (cells + mc) (slots + ms) Q (F0 m pc ls rest) q9)
    (kk : ∀ (u : S) (t : State) (H1 : Heap) (locs1 : List Loc), t.heap = H1 → s.vm.Alike t.vm → post u → B u t → H.size ≤ H1.size → (∀ q : Nat, q < H.size → ¬ A1 q → H1[q]? = H[q]?) → va_S A0 H0 H1 locs1 → W p l e R s m args below meth c H1 locs1 (cells + mc) (slots + ms) Q (F0 m (pc + 3) ls (rest))) : W p l e R s m args below meth c H locs cells slots Q (F0 m pc ls st0) := by
  intro T hT X
  rcases hr T hT X with ⟨v, st₀, t, T', L, h0, X', hL, e1, e2, ⟨⟨u, hv, hp, hb⟩, hF⟩, st⟩ | ⟨q, st₀, t, T', L, E, ce, h0, X', hL, e1, e2, ⟨u, hp, hb, hF⟩, hce, hcv, hcl, st⟩
  · cases hv
    obtain ⟨k1, k2, k3⟩ := vx_keep h0 e1 hS hA hf hL hF
    obtain ⟨t2, a1, b1⟩ := kk u t T'.heap (locs ++ L) e1.symm (by rw [← e2]; exact X'.warmed.alike) hp hb k1 k2 k3 T' rfl X'
    exact ⟨t2, st t2 a1, b1⟩
  · obtain ⟨k1, k2, k3⟩ := vx_keep h0 e1 hS hAX hf hL hF
    obtain ⟨t2, a1, b1⟩ := kx E ce q u t T'.heap (locs ++ L) e1.symm (by rw [← e2]; exact X'.warmed.alike) hp hb k1 k2 k3 (by rw [e1]; exact hce) hcv hcl T' rfl X'
    exact ⟨t2, st.trans a1, b1⟩
/-- caught by the row x of this method's table; the rows ahead don't take it -/
theorem vx_catch {own name : String} {E : String} {ce : Cell} {q : Addr} (hown : s.vm.findClass own = some m.cls) (pre : List ExceptionTableEntry) (x : ExceptionTableEntry) (suf : List ExceptionTableEntry) (hsplit : c.exceptionTable.toList = pre ++ x :: suf)
    (hpass : ∀ z ∈ pre, covers z pc = false ∨ (z.catchType ≠ 0 ∧ ∃ nm : String, (Cond.classLink own z.catchType nm).before args s = true ∧ va_Nc E nm s)) (hx : covers x pc = true) (h0 : x.catchType ≠ 0)
    (hlink : (Cond.classLink own x.catchType name).before args s = true) (hcast : (Cond.castable E name).before args s = true) (hcell : H[q]? = some ce) (hv : ce.vm = .none) (hcl : s.vm.findClass E = some ce.cls)
    (kk : W p l e R s m args below meth c H locs cells slots Q (F0 m x.handlerPc ls [.ref q])) : vx_W p l e R s m args below meth c H locs cells slots Q (F0 m pc ls rest) q := by
  intro T hT X
  have hpl : e.platform.magicAccessors = ({} : Platform).magicAccessors := by rw [X.admits.platform]
  obtain ⟨c3, c4, hc3, hc4, hasg⟩ := Cond.castable_spec hcast
  cases Option.some.inj (hc3.symm.trans hcl)
  obtain ⟨c5, hc5, hcl5⟩ := Cond.classLink_spec hown hlink e.platform hpl
  cases Option.some.inj (hc4.symm.trans hc5)
  obtain ⟨vm', X', st⟩ := X.thenCaughtThrough q (g := F0 m pc ls rest) rfl (Steps.refl _) (by rw [hT]; exact hcell) (by rw [hv]; rfl) (by obtain ⟨k9, h9, -⟩ := Vm.findClass_spec hcl; exact ⟨k9, h9⟩) pre x suf hsplit
    (fun z hz => by
      rcases hpass z hz with h | ⟨hz0, nm, hl1, hn1⟩
      · exact Or.inl h
      · obtain ⟨c6, hc6, hcl6⟩ := Cond.classLink_spec hown hl1 e.platform hpl
        obtain ⟨a8, b8, h1, h2, h3⟩ := hn1
        cases Option.some.inj (h1.symm.trans hcl)
        cases Option.some.inj (h2.symm.trans hc6)
        exact Or.inr ⟨hz0, _, hcl6, h3⟩) hx (Or.inr ⟨h0, c4, hcl5, hasg⟩)
  obtain ⟨t, a1, b1⟩ := kk (T.setVm vm') hT X'
  exact ⟨t, st.trans a1, b1⟩
end Rows
section Ends
variable {p : Program} {l : Launch} {e : Env} {R : Room} {s : State} {m : MethodId} {args : Array Value} {below : List Frame} {meth : Method} {c : Code} {H : Heap} {locs : List Loc} {cells slots : Nat} {Q : State → Prop}
variable {mc ms : Nat} {free : Addr → Prop} {A0 A1 : Nat → Prop} {H0 : Heap} {a : Array Value} {ls : Array Slot} {st0 rest : List Value}
variable {Qc : Array Value → State → Outcome → State → Prop} {XC : String → State → State → Prop}
/-- what a body that may throw owes at its end -/
def vx_MQ (below : List Frame) (Qc : Array Value → State → Outcome → State → Prop) (XC : String → State → State → Prop) (a : Array Value) (s : State) (mc ms : Nat) (free : Addr → Prop) : State → Prop := fun t =>
  ∃ o, t.status = .running ∧ Ended t below o ∧ vx_Q Qc XC mc ms free a s o t
theorem vx_ret {g : JFrame} {mc ms : Nat} (k : W p l e R s m args below meth c H locs cells slots (MQ below Qc args s mc ms free) g) : W p l e R s m args below meth c H locs cells slots (vx_MQ below Qc XC args s mc ms free) g := by
  intro T hT X
  obtain ⟨t, a1, o, b1, b2, b3, b4⟩ := k T hT X
  exact ⟨t, a1, o, b1, b2, Or.inl ⟨b3, b4⟩⟩
/-- not caught here: it goes on to the caller -/
theorem vx_widen {g : JFrame} {q : Addr} {k n : Nat} (h1 : cells ≤ k) (h2 : slots ≤ n) (kk : vx_W p l e R s m args below meth c H locs k n Q g q) : vx_W p l e R s m args below meth c H locs cells slots Q g q := fun T hT X => kk T hT (stand_widen X h1 h2)
theorem vx_out {pc : Nat} {E : String} {ce : Cell} {q : Addr} {mc ms : Nat} (hout : ∀ x ∈ c.exceptionTable.toList, covers x pc = false) (hlocks : meth.locks = false) (hcell : H[q]? = some ce) (hv : ce.vm = .none) (hcl : s.vm.findClass E = some ce.cls)
    (hx : ∀ t : State, t.heap = H → s.vm.Alike t.vm → XC E s t) (hf : ∀ z ∈ locs, free z.base) (hc : cells ≤ mc) (hs : slots ≤ ms) :
    vx_W p l e R s m args below meth c H locs cells slots (vx_MQ below Qc XC args s mc ms free) (F0 m pc ls rest) q := by
  intro T hT X
  obtain ⟨st1, hrun, hend, hW, hsm⟩ := X.leaveThrown q (g := F0 m pc ls rest) rfl rfl rfl hout hlocks
  have hcell9 : (T.setFrames (.throwing q :: below)).heap[q]? = some ce := by
    show T.heap[q]? = some ce
    rw [hT]; exact hcell
  exact ⟨_, st1, .threw q, hrun, hend, Or.inr ⟨q, rfl, E, ce, locs, hx _ hT hW.alike, hcell9, hv, hcl, hW, hsm.mono hc hs, hf⟩⟩
theorem vx_frame {U : State} {k n : Nat} (h : s.sameButNew ({ U with vm := s.vm } : State) locs k n) : s.heap.size ≤ U.heap.size ∧ ∀ q : Nat, q < s.heap.size → (∀ z ∈ locs, z.base ≠ q) → U.heap[q]? = s.heap[q]? := by
  obtain ⟨-, h2, -, -, -, h6⟩ := h
  refine ⟨h2, fun q hq hz => ?_⟩
  obtain ⟨c9, e1, e2, e3, e4⟩ := h6 q _ (Array.getElem?_eq_getElem hq)
  have hs : c9.slots = (s.heap[q]).slots := Array.ext_getElem? fun i => e4 i fun hm => hz _ hm rfl
  have h9 : c9 = s.heap[q] := by
    rw [hs] at e2
    exact e2
  have e5 : U.heap[q]? = some c9 := e1
  rw [e5, h9, Array.getElem?_eq_getElem hq]
/-- the words of a throw but the four that speak of the heap -/
def vx_no (w : Cond) : Bool := decide (w ≠ .isRef (.static Bundle.tN "UNASSIGNED_STACK" Bundle.steD)) && decide (w ≠ .isRef (.static Bundle.tN "SUPPRESSED_SENTINEL" Bundle.listD)) && decide (w ≠ .laysStatic Bundle.tN "UNASSIGNED_STACK" Bundle.steD) && decide (w ≠ .laysStatic Bundle.tN "SUPPRESSED_SENTINEL" Bundle.listD)
def vx_at0 (own : String) (ic : Nat) (X : String) (names : List String) : List Cond := (Bundle.ownAtoms0 own ic X names).filter vx_no
def vx_atS (own : String) (ic : Nat) (X : String) (names : List String) : List Cond := (Bundle.ownAtoms own ic X names).filter vx_no
/-- a word that the tables alone decide, or a good one -/
def vx_ot (w : Cond) : Bool := w.onTables || goodWord w
theorem vx_ot_at {args a' : Array Value} {s U : State} {w : Cond} (hW : s.WarmedH U.vm) (hvm : s.vm = U.vm) (hg : vx_ot w = true) (h : w.before args s = true) : w.before a' U = true := by
  simp only [vx_ot, Bool.or_eq_true] at hg
  rcases hg with hg | hg
  · exact va_tabs hg hvm h
  · exact word_at hW (good_of_word hg) h
/-- a list's words: the good ones out of the method's own list, the others by premises of their own -/
theorem vx_hat {args : Array Value} {s : State} {L B : List Cond} (h1 : ∀ w ∈ L.filter goodWord, w.before args s = true) (h2 : ∀ w ∈ L.filter (fun w => !goodWord w), w ∈ B) (h3 : ∀ w ∈ B, w.before args s = true) : ∀ w ∈ L, w.before args s = true := by
  intro w hw
  by_cases g : goodWord w = true
  · exact h1 w (List.mem_filter.mpr ⟨hw, g⟩)
  · refine h3 w (h2 w (List.mem_filter.mpr ⟨hw, ?_⟩))
    show (!goodWord w) = true
    cases hgw : goodWord w
    · rfl
    · exact absurd hgw g
theorem vx_c {args : Array Value} {s : State} {w : Cond} {B : List Cond} (h : w.before args s = true) (t : ∀ w ∈ B, w.before args s = true) : ∀ w' ∈ w :: B, w'.before args s = true := fun w' h' => (List.mem_cons.mp h').elim (fun e => by rw [e]; exact h) (t w')
theorem vx_n {args : Array Value} {s : State} : ∀ w ∈ ([] : List Cond), w.before args s = true := fun _ h => nomatch h
theorem vx_own {args : Array Value} {s : State} {L : List Cond} (h1 : ∀ w ∈ L.filter vx_no, w.before args s = true)
    (hU : (Cond.isRef (.static Bundle.tN "UNASSIGNED_STACK" Bundle.steD)).before args s = true) (hN : (Cond.isRef (.static Bundle.tN "SUPPRESSED_SENTINEL" Bundle.listD)).before args s = true)
    (lU : (Cond.laysStatic Bundle.tN "UNASSIGNED_STACK" Bundle.steD).before args s = true) (lN : (Cond.laysStatic Bundle.tN "SUPPRESSED_SENTINEL" Bundle.listD).before args s = true) : ∀ w ∈ L, w.before args s = true := by
  intro w hw
  by_cases e1 : w = .isRef (.static Bundle.tN "UNASSIGNED_STACK" Bundle.steD)
  · rw [e1]; exact hU
  · by_cases e2 : w = .isRef (.static Bundle.tN "SUPPRESSED_SENTINEL" Bundle.listD)
    · rw [e2]; exact hN
    · by_cases e3 : w = .laysStatic Bundle.tN "UNASSIGNED_STACK" Bundle.steD
      · rw [e3]; exact lU
      · by_cases e4 : w = .laysStatic Bundle.tN "SUPPRESSED_SENTINEL" Bundle.listD
        · rw [e4]; exact lN
        · exact h1 w (List.mem_filter.mpr ⟨hw, by unfold vx_no; rw [decide_eq_true e1, decide_eq_true e2, decide_eq_true e3, decide_eq_true e4]; rfl⟩)
/-- where a static field lies, its class's statics cell in H -/
def vx_L (C n d : String) (A : Nat → Prop) (U : State) (H : Heap) : Prop := ∃ (c : ClassId) (k : Class) (i : Nat) (f : Field) (a : Nat) (cell : Cell), U.vm.findClass C = some c ∧ U.fieldFound? C n d = some (c, k, i, f) ∧ f.isStatic = true ∧ k.statics = some a ∧ H[a]? = some cell ∧ cell.vm.isStatics = true ∧ cell.cls = c ∧ f.slot < cell.slots.size ∧ k.staticTypes[f.slot]? = some f.type ∧ ¬ A a
theorem vx_L.moved {C n d : String} {A : Nat → Prop} {u U : State} {H : Heap} (hvm : u.vm.Alike U.vm) (h : vx_L C n d A u H) : vx_L C n d A U H := by
  obtain ⟨c, k, i, f, a, cell, h1, h2, h3, h4, h5, h6, h7, h8, h9, h10⟩ := h
  obtain ⟨k', hi', he⟩ := State.fieldFound?_setVm hvm h2
  exact ⟨c, k', i, f, a, cell, by rw [hvm.findClass]; exact h1, hi', h3, by rw [he]; exact h4, h5, h6, h7, h8, by rw [he]; exact h9, h10⟩
theorem vx_L.kept {C n d : String} {A : Nat → Prop} {U : State} {H H1 : Heap} (h : vx_L C n d A U H) (hq : ∀ a : Nat, a < H.size → ¬ A a → H1[a]? = H[a]?) : vx_L C n d A U H1 := by
  obtain ⟨c, k, i, f, a, cell, h1, h2, h3, h4, h5, h6, h7, h8, h9, h10⟩ := h
  exact ⟨c, k, i, f, a, cell, h1, h2, h3, h4, by rw [hq a (Array.getElem?_eq_some_iff.mp h5).1 h10]; exact h5, h6, h7, h8, h9, h10⟩
theorem vx_L.narrow {C n d : String} {A B : Nat → Prop} {U : State} {H : Heap} (h : vx_L C n d A U H) (hAB : ∀ q, B q → A q) : vx_L C n d B U H := by
  obtain ⟨c, k, i, f, a, cell, h1, h2, h3, h4, h5, h6, h7, h8, h9, h10⟩ := h
  exact ⟨c, k, i, f, a, cell, h1, h2, h3, h4, h5, h6, h7, h8, h9, fun z => h10 (hAB _ z)⟩
theorem vx_L.word {C n d : String} {A : Nat → Prop} {s : State} {args : Array Value} (h : vx_L C n d A s s.heap) : (Cond.laysStatic C n d).before args s = true := by
  obtain ⟨c, k, i, f, a, cell, h1, h2, h3, h4, h5, h6, h7, h8, h9, -⟩ := h
  show (Cond.laysStatic C n d).holds args s none s [] = true
  exact Cond.laysStatic_of h1 h2 h3 h4 h5 h6 h7 h8 h9
/-- .. and what it holds: null or some reference -/
def vx_Zq (C n d : String) (A : Nat → Prop) (U : State) (H : Heap) : Prop := va_Zq C n d A U H ∧ vx_L C n d A U H
theorem vx_Zq.moved {C n d : String} {A : Nat → Prop} {u U : State} {H : Heap} (hvm : u.vm.Alike U.vm) (h : vx_Zq C n d A u H) : vx_Zq C n d A U H := ⟨va_Zq.moved hvm h.1, vx_L.moved hvm h.2⟩
theorem vx_Zq.kept {C n d : String} {A : Nat → Prop} {U : State} {H H1 : Heap} (h : vx_Zq C n d A U H) (hq : ∀ a : Nat, a < H.size → ¬ A a → H1[a]? = H[a]?) : vx_Zq C n d A U H1 := ⟨va_Zq.kept h.1 hq, vx_L.kept h.2 hq⟩
theorem vx_Zq.narrow {C n d : String} {A B : Nat → Prop} {U : State} {H : Heap} (h : vx_Zq C n d A U H) (hAB : ∀ q, B q → A q) : vx_Zq C n d B U H := ⟨va_Zq.narrow h.1 hAB, vx_L.narrow h.2 hAB⟩
theorem vx_Zqof {args : Array Value} {s : State} {C n d : String} {A : Nat → Prop} (hl : (Cond.laysStatic C n d).before args s = true) (hini : (Cond.initialized C).before args s = true) (h : (Cond.isRef (.static C n d)).before args s = true) (hA : ∀ a : Nat, a < s.heap.size → ¬ A a) : vx_Zq C n d A s s.heap := by
  refine ⟨va_Zqof hl hini h hA, ?_⟩
  obtain ⟨c, k, i, f, a, cell, h1, h2, h3, h4, h5, h6, h7, h8, h9⟩ := Cond.laysStatic_spec hl
  exact ⟨c, k, i, f, a, cell, h1, h2, h3, h4, h5, h6, h7, h8, h9, hA a (Array.getElem?_eq_some_iff.mp h5).1⟩
theorem vx_isRef {C n d : String} {v : Value} {A : Nat → Prop} {s : State} {args : Array Value} (h : va_Z C n d v A s s.heap) (hv : v.isRef = true) : (Cond.isRef (.static C n d)).before args s = true := by
  obtain ⟨cf, kf, fi, f, a, cell, h1, h2, h3, h4, h5, h6, h7, -⟩ := h
  have he : (Term.static C n d).eval args s none [] s = some v := by
    simp [Term.eval, State.fieldNamed?, h1, h2, h4, h5, h6, h7]
  simp only [Cond.before, Cond.holds, Cond.value, he]
  cases v <;> simp_all [Value.isRef]
theorem vx_isRefq {C n d : String} {A : Nat → Prop} {s : State} {args : Array Value} (h : va_Zq C n d A s s.heap) : (Cond.isRef (.static C n d)).before args s = true := by
  rcases h with h | ⟨t, h⟩
  · exact vx_isRef h rfl
  · exact vx_isRef h rfl
/-- the same frame, seen from here: as if the method were called anew in this heap -/
theorem vx_rebase {T : State} (X : Stand p l e R s m args below meth c T locs cells slots) {R' : Room} (hf : R'.frames ≤ R.frames) (hl : R'.locals ≤ R.locals) (hc : cells + R'.cells ≤ R.cells) (hs : slots + R'.slots ≤ R.slots) :
    Stand p l e R' ((T.setVm s.vm).setFrames (.invoking m args :: below)) m args below meth c T [] 0 0 := by
  have htop : (T.setVm s.vm).topJava?.isSome := X.here.top
  have hF : ((T.setVm s.vm).setFrames (.invoking m args :: below)).frames = .invoking m args :: below := State.frames_setFrames _ (State.cur_lt_of_top htop)
  obtain ⟨g₀, hg0⟩ := Option.isSome_iff_exists.mp htop
  obtain ⟨r, hr⟩ := State.topJava?_eq_some.mp hg0
  have hl9 : e.platform.stackLimits (T.setVm s.vm).me = e.platform.stackLimits s.me := X.limits
  have hb9 : (T.setVm s.vm).me.stackBytes = s.me.stackBytes := X.bytes
  refine ⟨X.admits, X.cas, X.clock, hF, ?_, X.hears, X.method, X.code, X.here, X.tail, X.warmed, ?_, ?_, ?_⟩
  · have h := X.room
    have hU : ((T.setVm s.vm).setFrames (.invoking m args :: below)).localsInUse = s.localsInUse := by
      rw [State.localsInUse_invoking hF (meth := meth) (c := c) X.method X.code, State.localsInUse_invoking X.frames X.method X.code]
    simp only [State.hasRoom, Bool.and_eq_true, decide_eq_true_eq] at h ⊢
    obtain ⟨⟨⟨⟨h1, h2, h3, h4, h5, h6⟩, h7⟩, h8⟩, h9⟩ := h
    rw [X.frames, List.length_cons] at h2 h3
    have q1 := X.heapSize
    have q2 := X.used
    simp only [hF, hU, List.length_cons, State.stackLimits_setFrames, State.stackBytes_setFrames, hl9, hb9]
    refine ⟨⟨⟨⟨by omega, by omega, by omega, by omega, by omega, h6⟩, ?_⟩, ?_⟩, X.book⟩
    · show T.heap.size + R'.cells ≤ e.platform.maxCells
      omega
    · show T.slotsUsed + R'.slots ≤ e.platform.maxSlots
      omega
  · rw [State.stackLimits_setFrames]; rfl
  · rw [State.stackBytes_setFrames]; rfl
  · refine ⟨?_, Nat.le_refl _, Nat.le_refl _, ?_, ?_, fun a c9 h9 => ⟨c9, h9, rfl, rfl, fun _ _ => rfl⟩⟩
    · obtain ⟨t, ht, -⟩ := State.frames_cons hr
      show T.setVm s.vm = { ((T.setVm s.vm).setFrames (.invoking m args :: below)).setFrames (T.setVm s.vm).frames with heap := T.heap, slotsUsed := T.slotsUsed }
      rw [State.setFrames_setFrames, State.setFrames_self ht]
      rfl
    · show T.slotsUsed = T.slotsUsed + ((T.heap.toList.drop T.heap.size).map (·.slots.size)).sum
      rw [List.drop_eq_nil_of_le (Nat.le_of_eq Array.length_toList)]
      rfl
    · show ((T.heap.toList.drop T.heap.size).map (·.slots.size)).sum ≤ 0
      rw [List.drop_eq_nil_of_le (Nat.le_of_eq Array.length_toList)]
      exact Nat.le_refl _
/-- 'throw new E()': new; dup; invokespecial; athrow -/
theorem vx_throw0 {cc : ByteArray} {pc : Nat} (hexec : p.tables.exec = Jvm.exec) (hb : c.code = cc) (hl : l.stackTraces = false) {own cls : String} {names : List String} {ik ic mc ms : Nat} {A : Nat → Prop}
    (hown : s.vm.findClass own = some m.cls) (hcls : Bundle.fit cls = true) (hnames : ∀ n ∈ names, Bundle.fit n = true)
    (hk : (Cond.classLink own ik cls).before args s = true) (hini : (Cond.initialized cls).before args s = true) (hat : ∀ w ∈ vx_at0 own ic cls names, w.before args s = true)
    (hgood : ∀ w ∈ Cond.classLink own ik cls :: Cond.initialized cls :: vx_at0 own ic cls names, vx_ot w = true)
    (hU : vx_Zq Bundle.tN "UNASSIGNED_STACK" Bundle.steD A s s.heap) (hN : vx_Zq Bundle.tN "SUPPRESSED_SENTINEL" Bundle.listD A s s.heap) (hS : va_S A s.heap H locs) (hsize : ls.size = c.maxLocals)
    (d0 : decode cc pc = .ok (.new ik, 3)) (d3 : decode cc (pc + 3) = .ok (.dup, 1)) (d4 : decode cc (pc + 4) = .ok (.invokespecial ic, 3)) (d7 : decode cc (pc + 7) = .ok (.athrow, 1))
    (hout : ∀ x ∈ c.exceptionTable.toList, covers x (pc + 7) = false)
    (hRframes : names.length + 3 < R.frames) (hRlocals : (rest.map fun v => v.category).sum + (13 * (names.length + 1) + 42) ≤ R.locals) (hRcells : cells + 1 ≤ R.cells) (hRslots : slots + 6 ≤ R.slots) (hlocks : meth.locks = false)
    (hx : ∀ t : State, s.vm.Alike t.vm → H.size ≤ t.heap.size → (∀ q : Nat, q < H.size → t.heap[q]? = H[q]?) → XC cls s t)
    (hf : ∀ z ∈ locs, free z.base) (hc : cells + 1 ≤ mc) (hs : slots + 6 ≤ ms) :
    W p l e R s m args below meth c H locs cells slots (vx_MQ below Qc XC args s mc ms free) (F0 m pc ls rest) := by
  intro T hT X
  have htr : e.platform.stackTraces = false := (show e.platform.stackTraces = l.stackTraces by rw [X.admits.platform]).trans hl
  have Y := vx_rebase X (R' := { frames := R.frames, locals := R.locals, cells := 1, slots := 6 }) (Nat.le_refl _) (Nat.le_refl _) hRcells hRslots
  obtain ⟨s', hA⟩ : ∃ z, z = (T.setVm s.vm).setFrames (.invoking m args :: below) := ⟨_, rfl⟩
  rw [← hA] at Y
  have hvm : s'.vm = s.vm := by rw [hA]; rfl
  have hhp : s'.heap = H := by rw [hA]; exact hT
  have hW0 : s.WarmedH s'.vm := by rw [hvm]; exact State.WarmedH.refl s
  have hat' : ∀ w ∈ vx_at0 own ic cls names, w.before args s' = true := fun w hw => vx_ot_at hW0 hvm.symm (hgood w (List.mem_cons_of_mem _ (List.mem_cons_of_mem _ hw))) (hat w hw)
  have hk' : (Cond.classLink own ik cls).before args s' = true := vx_ot_at hW0 hvm.symm (hgood _ List.mem_cons_self) hk
  have hini' : (Cond.initialized cls).before args s' = true := vx_ot_at hW0 hvm.symm (hgood _ (List.mem_cons_of_mem _ List.mem_cons_self)) hini
  have hU' : vx_Zq Bundle.tN "UNASSIGNED_STACK" Bundle.steD A s' s'.heap := by rw [hhp]; exact vx_Zq.moved hW0.alike (hU.kept hS.2.1)
  have hN' : vx_Zq Bundle.tN "SUPPRESSED_SENTINEL" Bundle.listD A s' s'.heap := by rw [hhp]; exact vx_Zq.moved hW0.alike (hN.kept hS.2.1)
  have h : ∀ w ∈ Bundle.ownAtoms0 own ic cls names, w.before args s' = true := vx_own hat' (vx_isRefq hU'.1) (vx_isRefq hN'.1) hU'.2.word hN'.2.word
  have hown' : s'.vm.findClass own = some m.cls := by rw [hvm]; exact hown
  have hins : (Cond.instantiable cls 6).before args s' = true := h _ (by simp [Bundle.ownAtoms0])
  obtain ⟨vm₁, cX, kX, hfX, hkX, -, -, X₁, st1⟩ := Y.newCold hexec (own := own) (C := cls) (index := ik) (n := 6) hown' hk' hins hini'
    (g := F0 m pc ls rest) rfl (by rw [hb]; exact d0) (Nat.le_refl _) (Nat.le_refl _)
  generalize hT1 : (T.setVm vm₁).pushCell { cls := cX, slots := kX.instanceTypes.map defaultValue, vm := .none } = T1 at X₁ st1
  have hcat : (Value.ref T.heap.size).category = 1 := rfl
  have hcellA : T1.heap[T.heap.size]? = some (freshCell cX kX) := by rw [← hT1]; exact State.heap_pushCell_size _ _
  have d3' : decode c.code (pc + 3) = .ok (.dup, 1) := by rw [hb]; exact d3
  obtain ⟨U, hsteps, hrun, hend, hW, hsame, ce, hce, hO⟩ := X₁.ctorThrow0 hexec htr (own := own) (cls := cls) (names := names) (ic := ic) hown' hcls hnames h (fun x hx => nomatch hx) hfX hkX hcellA (by rw [hhp, hT]; exact Nat.le_refl _)
    (g := { method := m, pc := pc + 4, locals := ls, stack := .ref T.heap.size :: .ref T.heap.size :: rest, locked := none }) rfl hsize rfl rfl (rest := rest) rfl
    (by rw [hb]; exact d4) (by rw [hb]; exact d7) hout hRframes (by simp only [List.map_cons, List.sum_cons, hcat]; omega) hlocks
  obtain ⟨f1, f2⟩ := vx_frame hsame
  rw [hhp] at f1 f2
  have hWs : s.WarmedH U.vm := State.WarmedH.trans hW0 hW
  have hcl : s.vm.findClass cls = some ce.cls := by
    have h9 := hO.cls
    rw [hvm] at h9
    exact h9
  have hall : s.sameButNew ({ U with vm := s.vm } : State) locs mc ms := by
    subst hA
    obtain ⟨e1, e2⟩ := hsame
    rw [State.setFrames_setFrames] at e1
    have h2 : (T.setVm s.vm).sameButNew ({ U with vm := s.vm } : State) [] (0 + 1) (0 + 6) := ⟨e1, e2⟩
    have h3 := X.same.trans h2
    rw [List.append_nil] at h3
    exact h3.mono hc hs
  refine ⟨U, ?_, .threw T.heap.size, hrun, hend, Or.inr ⟨T.heap.size, rfl, cls, ce, locs, hx U hWs.alike f1 (fun q hq => f2 q hq (fun z hz => nomatch hz)), hce, hO.vm, hcl, hWs, hall, hf⟩⟩
  refine st1 _ ?_
  show Steps p.tables e below (T1.setTop { method := m, pc := pc + 3, locals := ls, stack := .ref T.heap.size :: rest, locked := none }) _
  jvm_step X₁.here [X₁.here.top, hexec, d3', Value.category]
  exact hsteps
/-- 'throw new E("text")': new; dup; ldc; invokespecial; athrow -/
theorem vx_throwS {cc : ByteArray} {pc : Nat} (hexec : p.tables.exec = Jvm.exec) (hb : c.code = cc) (hl : l.stackTraces = false) {own cls text : String} {names : List String} {ik is ic mc ms sa : Nat} {A : Nat → Prop}
    (hown : s.vm.findClass own = some m.cls) (hcls : Bundle.fit cls = true) (hnames : ∀ n ∈ names, Bundle.fit n = true)
    (hk : (Cond.classLink own ik cls).before args s = true) (hini : (Cond.initialized cls).before args s = true) (hstr : vk_R own is text sa s) (hat : ∀ w ∈ vx_atS own ic cls names, w.before args s = true)
    (hgood : ∀ w ∈ Cond.classLink own ik cls :: Cond.initialized cls :: vx_atS own ic cls names, vx_ot w = true)
    (hU : vx_Zq Bundle.tN "UNASSIGNED_STACK" Bundle.steD A s s.heap) (hN : vx_Zq Bundle.tN "SUPPRESSED_SENTINEL" Bundle.listD A s s.heap) (hS : va_S A s.heap H locs) (hsize : ls.size = c.maxLocals)
    (d0 : decode cc pc = .ok (.new ik, 3)) (d3 : decode cc (pc + 3) = .ok (.dup, 1)) (d4 : decode cc (pc + 4) = .ok (.ldc is, 2)) (d6 : decode cc (pc + 6) = .ok (.invokespecial ic, 3)) (d9 : decode cc (pc + 9) = .ok (.athrow, 1))
    (hout : ∀ x ∈ c.exceptionTable.toList, covers x (pc + 9) = false)
    (hRframes : names.length + 3 < R.frames) (hRlocals : (rest.map fun v => v.category).sum + (13 * (names.length + 1) + 43) ≤ R.locals) (hRcells : cells + 1 ≤ R.cells) (hRslots : slots + 6 ≤ R.slots) (hlocks : meth.locks = false)
    (hx : ∀ t : State, s.vm.Alike t.vm → H.size ≤ t.heap.size → (∀ q : Nat, q < H.size → t.heap[q]? = H[q]?) → XC cls s t)
    (hf : ∀ z ∈ locs, free z.base) (hc : cells + 1 ≤ mc) (hs : slots + 6 ≤ ms) :
    W p l e R s m args below meth c H locs cells slots (vx_MQ below Qc XC args s mc ms free) (F0 m pc ls rest) := by
  intro T hT X
  have htr : e.platform.stackTraces = false := (show e.platform.stackTraces = l.stackTraces by rw [X.admits.platform]).trans hl
  have Y := vx_rebase X (R' := { frames := R.frames, locals := R.locals, cells := 1, slots := 6 }) (Nat.le_refl _) (Nat.le_refl _) hRcells hRslots
  obtain ⟨s', hA⟩ : ∃ z, z = (T.setVm s.vm).setFrames (.invoking m args :: below) := ⟨_, rfl⟩
  rw [← hA] at Y
  have hvm : s'.vm = s.vm := by rw [hA]; rfl
  have hhp : s'.heap = H := by rw [hA]; exact hT
  have hW0 : s.WarmedH s'.vm := by rw [hvm]; exact State.WarmedH.refl s
  have hat' : ∀ w ∈ vx_atS own ic cls names, w.before args s' = true := fun w hw => vx_ot_at hW0 hvm.symm (hgood w (List.mem_cons_of_mem _ (List.mem_cons_of_mem _ hw))) (hat w hw)
  have hk' : (Cond.classLink own ik cls).before args s' = true := vx_ot_at hW0 hvm.symm (hgood _ List.mem_cons_self) hk
  have hini' : (Cond.initialized cls).before args s' = true := vx_ot_at hW0 hvm.symm (hgood _ (List.mem_cons_of_mem _ List.mem_cons_self)) hini
  have hU' : vx_Zq Bundle.tN "UNASSIGNED_STACK" Bundle.steD A s' s'.heap := by rw [hhp]; exact vx_Zq.moved hW0.alike (hU.kept hS.2.1)
  have hN' : vx_Zq Bundle.tN "SUPPRESSED_SENTINEL" Bundle.listD A s' s'.heap := by rw [hhp]; exact vx_Zq.moved hW0.alike (hN.kept hS.2.1)
  have h : ∀ w ∈ Bundle.ownAtoms own ic cls names, w.before args s' = true := vx_own hat' (vx_isRefq hU'.1) (vx_isRefq hN'.1) hU'.2.word hN'.2.word
  have hown' : s'.vm.findClass own = some m.cls := by rw [hvm]; exact hown
  have hins : (Cond.instantiable cls 6).before args s' = true := h _ (by simp [Bundle.ownAtoms])
  obtain ⟨vm₁, cX, kX, hfX, hkX, -, -, X₁, st1⟩ := Y.newCold hexec (own := own) (C := cls) (index := ik) (n := 6) hown' hk' hins hini'
    (g := F0 m pc ls rest) rfl (by rw [hb]; exact d0) (Nat.le_refl _) (Nat.le_refl _)
  generalize hT1 : (T.setVm vm₁).pushCell { cls := cX, slots := kX.instanceTypes.map defaultValue, vm := .none } = T1 at X₁ st1
  have hcat : (Value.ref T.heap.size).category = 1 := rfl
  have hcellA : T1.heap[T.heap.size]? = some (freshCell cX kX) := by rw [← hT1]; exact State.heap_pushCell_size _ _
  have d3' : decode c.code (pc + 3) = .ok (.dup, 1) := by rw [hb]; exact d3
  have d4' : decode c.code (pc + 4) = .ok (.ldc is, 2) := by rw [hb]; exact d4
  have hstr' : vk_R own is text sa s' := vk_R.warm hW0 hstr
  obtain ⟨U, hsteps, hrun, hend, hW, hsame, ce, hce, hO⟩ := X₁.ctorThrowS hexec htr (own := own) (cls := cls) (names := names) (ic := ic) hown' hcls hnames h (fun x hx => nomatch hx) hfX hkX hcellA (by rw [hhp, hT]; exact Nat.le_refl _) (msg := .ref sa) rfl
    (g := { method := m, pc := pc + 6, locals := ls, stack := .ref sa :: .ref T.heap.size :: .ref T.heap.size :: rest, locked := none }) rfl hsize rfl rfl (rest := rest) rfl
    (by rw [hb]; exact d6) (by rw [hb]; exact d9) hout hRframes (by simp only [List.map_cons, List.sum_cons, hcat]; omega) hlocks
  obtain ⟨f1, f2⟩ := vx_frame hsame
  rw [hhp] at f1 f2
  have hWs : s.WarmedH U.vm := State.WarmedH.trans hW0 hW
  have hcl : s.vm.findClass cls = some ce.cls := by
    have h9 := hO.cls
    rw [hvm] at h9
    exact h9
  have hall : s.sameButNew ({ U with vm := s.vm } : State) locs mc ms := by
    subst hA
    obtain ⟨e1, e2⟩ := hsame
    rw [State.setFrames_setFrames] at e1
    have h2 : (T.setVm s.vm).sameButNew ({ U with vm := s.vm } : State) [] (0 + 1) (0 + 6) := ⟨e1, e2⟩
    have h3 := X.same.trans h2
    rw [List.append_nil] at h3
    exact h3.mono hc hs
  refine ⟨U, ?_, .threw T.heap.size, hrun, hend, Or.inr ⟨T.heap.size, rfl, cls, ce, locs, hx U hWs.alike f1 (fun q hq => f2 q hq (fun z hz => nomatch hz)), hce, hO.vm, hcl, hWs, hall, hf⟩⟩
  refine st1 _ ?_
  show Steps p.tables e below (T1.setTop { method := m, pc := pc + 3, locals := ls, stack := .ref T.heap.size :: rest, locked := none }) _
  jvm_step X₁.here [X₁.here.top, hexec, d3', Value.category]
  exact X₁.ldcString hexec (own := own) (text := text) (index := is) (a := sa) hown' hstr'.1 hstr'.2
    (g := { method := m, pc := pc + 4, locals := ls, stack := .ref T.heap.size :: .ref T.heap.size :: rest, locked := none }) rfl d4' _ hsteps
/-- 'throw new E("text")', the text by a wide index -/
theorem vx_throwSW {cc : ByteArray} {pc : Nat} (hexec : p.tables.exec = Jvm.exec) (hb : c.code = cc) (hl : l.stackTraces = false) {own cls text : String} {names : List String} {ik is ic mc ms sa : Nat} {A : Nat → Prop}
    (hown : s.vm.findClass own = some m.cls) (hcls : Bundle.fit cls = true) (hnames : ∀ n ∈ names, Bundle.fit n = true)
    (hk : (Cond.classLink own ik cls).before args s = true) (hini : (Cond.initialized cls).before args s = true) (hstr : vk_R own is text sa s) (hat : ∀ w ∈ vx_atS own ic cls names, w.before args s = true)
    (hgood : ∀ w ∈ Cond.classLink own ik cls :: Cond.initialized cls :: vx_atS own ic cls names, vx_ot w = true)
    (hU : vx_Zq Bundle.tN "UNASSIGNED_STACK" Bundle.steD A s s.heap) (hN : vx_Zq Bundle.tN "SUPPRESSED_SENTINEL" Bundle.listD A s s.heap) (hS : va_S A s.heap H locs) (hsize : ls.size = c.maxLocals)
    (d0 : decode cc pc = .ok (.new ik, 3)) (d3 : decode cc (pc + 3) = .ok (.dup, 1)) (d4 : decode cc (pc + 4) = .ok (.ldc_w is, 3)) (d7 : decode cc (pc + 7) = .ok (.invokespecial ic, 3)) (d10 : decode cc (pc + 10) = .ok (.athrow, 1))
    (hout : ∀ x ∈ c.exceptionTable.toList, covers x (pc + 10) = false)
    (hRframes : names.length + 3 < R.frames) (hRlocals : (rest.map fun v => v.category).sum + (13 * (names.length + 1) + 43) ≤ R.locals) (hRcells : cells + 1 ≤ R.cells) (hRslots : slots + 6 ≤ R.slots) (hlocks : meth.locks = false)
    (hx : ∀ t : State, s.vm.Alike t.vm → H.size ≤ t.heap.size → (∀ q : Nat, q < H.size → t.heap[q]? = H[q]?) → XC cls s t)
    (hf : ∀ z ∈ locs, free z.base) (hc : cells + 1 ≤ mc) (hs : slots + 6 ≤ ms) :
    W p l e R s m args below meth c H locs cells slots (vx_MQ below Qc XC args s mc ms free) (F0 m pc ls rest) := by
  intro T hT X
  have htr : e.platform.stackTraces = false := (show e.platform.stackTraces = l.stackTraces by rw [X.admits.platform]).trans hl
  have Y := vx_rebase X (R' := { frames := R.frames, locals := R.locals, cells := 1, slots := 6 }) (Nat.le_refl _) (Nat.le_refl _) hRcells hRslots
  obtain ⟨s', hA⟩ : ∃ z, z = (T.setVm s.vm).setFrames (.invoking m args :: below) := ⟨_, rfl⟩
  rw [← hA] at Y
  have hvm : s'.vm = s.vm := by rw [hA]; rfl
  have hhp : s'.heap = H := by rw [hA]; exact hT
  have hW0 : s.WarmedH s'.vm := by rw [hvm]; exact State.WarmedH.refl s
  have hat' : ∀ w ∈ vx_atS own ic cls names, w.before args s' = true := fun w hw => vx_ot_at hW0 hvm.symm (hgood w (List.mem_cons_of_mem _ (List.mem_cons_of_mem _ hw))) (hat w hw)
  have hk' : (Cond.classLink own ik cls).before args s' = true := vx_ot_at hW0 hvm.symm (hgood _ List.mem_cons_self) hk
  have hini' : (Cond.initialized cls).before args s' = true := vx_ot_at hW0 hvm.symm (hgood _ (List.mem_cons_of_mem _ List.mem_cons_self)) hini
  have hU' : vx_Zq Bundle.tN "UNASSIGNED_STACK" Bundle.steD A s' s'.heap := by rw [hhp]; exact vx_Zq.moved hW0.alike (hU.kept hS.2.1)
  have hN' : vx_Zq Bundle.tN "SUPPRESSED_SENTINEL" Bundle.listD A s' s'.heap := by rw [hhp]; exact vx_Zq.moved hW0.alike (hN.kept hS.2.1)
  have h : ∀ w ∈ Bundle.ownAtoms own ic cls names, w.before args s' = true := vx_own hat' (vx_isRefq hU'.1) (vx_isRefq hN'.1) hU'.2.word hN'.2.word
  have hown' : s'.vm.findClass own = some m.cls := by rw [hvm]; exact hown
  have hins : (Cond.instantiable cls 6).before args s' = true := h _ (by simp [Bundle.ownAtoms])
  obtain ⟨vm₁, cX, kX, hfX, hkX, -, -, X₁, st1⟩ := Y.newCold hexec (own := own) (C := cls) (index := ik) (n := 6) hown' hk' hins hini'
    (g := F0 m pc ls rest) rfl (by rw [hb]; exact d0) (Nat.le_refl _) (Nat.le_refl _)
  generalize hT1 : (T.setVm vm₁).pushCell { cls := cX, slots := kX.instanceTypes.map defaultValue, vm := .none } = T1 at X₁ st1
  have hcat : (Value.ref T.heap.size).category = 1 := rfl
  have hcellA : T1.heap[T.heap.size]? = some (freshCell cX kX) := by rw [← hT1]; exact State.heap_pushCell_size _ _
  have d3' : decode c.code (pc + 3) = .ok (.dup, 1) := by rw [hb]; exact d3
  have d4' : decode c.code (pc + 4) = .ok (.ldc_w is, 3) := by rw [hb]; exact d4
  have hstr' : vk_R own is text sa s' := vk_R.warm hW0 hstr
  obtain ⟨U, hsteps, hrun, hend, hW, hsame, ce, hce, hO⟩ := X₁.ctorThrowS hexec htr (own := own) (cls := cls) (names := names) (ic := ic) hown' hcls hnames h (fun x hx => nomatch hx) hfX hkX hcellA (by rw [hhp, hT]; exact Nat.le_refl _) (msg := .ref sa) rfl
    (g := { method := m, pc := pc + 7, locals := ls, stack := .ref sa :: .ref T.heap.size :: .ref T.heap.size :: rest, locked := none }) rfl hsize rfl rfl (rest := rest) rfl
    (by rw [hb]; exact d7) (by rw [hb]; exact d10) hout hRframes (by simp only [List.map_cons, List.sum_cons, hcat]; omega) hlocks
  obtain ⟨f1, f2⟩ := vx_frame hsame
  rw [hhp] at f1 f2
  have hWs : s.WarmedH U.vm := State.WarmedH.trans hW0 hW
  have hcl : s.vm.findClass cls = some ce.cls := by
    have h9 := hO.cls
    rw [hvm] at h9
    exact h9
  have hall : s.sameButNew ({ U with vm := s.vm } : State) locs mc ms := by
    subst hA
    obtain ⟨e1, e2⟩ := hsame
    rw [State.setFrames_setFrames] at e1
    have h2 : (T.setVm s.vm).sameButNew ({ U with vm := s.vm } : State) [] (0 + 1) (0 + 6) := ⟨e1, e2⟩
    have h3 := X.same.trans h2
    rw [List.append_nil] at h3
    exact h3.mono hc hs
  refine ⟨U, ?_, .threw T.heap.size, hrun, hend, Or.inr ⟨T.heap.size, rfl, cls, ce, locs, hx U hWs.alike f1 (fun q hq => f2 q hq (fun z hz => nomatch hz)), hce, hO.vm, hcl, hWs, hall, hf⟩⟩
  refine st1 _ ?_
  show Steps p.tables e below (T1.setTop { method := m, pc := pc + 3, locals := ls, stack := .ref T.heap.size :: rest, locked := none }) _
  jvm_step X₁.here [X₁.here.top, hexec, d3', Value.category]
  exact X₁.ldcStringW hexec (own := own) (text := text) (index := is) (a := sa) hown' hstr'.1 hstr'.2
    (g := { method := m, pc := pc + 4, locals := ls, stack := .ref T.heap.size :: .ref T.heap.size :: rest, locked := none }) rfl d4' _ hsteps
end Ends
section Bodies
variable {l : Launch}
theorem vx_ofW {y : MethodName} {ws ws' : List Cond} {rm : Room} {Pc : Array Value → State → Prop} {Qc : Array Value → State → Outcome → State → Prop} {XC : String → State → State → Prop} {mc ms : Nat} {free : Addr → Prop} {cc : ByteArray} {maxL : Nat} {ret : Option FieldType}
    (hy : plainName y.cls = true) (hw : ws = Cond.code y cc maxL ret :: ws')
    (body : ∀ p e s m args below meth c s₁, BodyLoose p l y (headSpec ws rm) cc maxL ret e s m args below meth c s₁ → c.maxLocals = maxL → (∀ x ∈ c.exceptionTable.toList, False) → Pc args s →
      W p l e (headSpec ws rm).room s m args below meth c s.heap [] 0 0 (vx_MQ below Qc XC args s mc ms free) (entryFrame m args maxL)) : vx_Met l y ws rm Pc Qc XC mc ms free := by
  refine MetFree.of_bodyS (code := cc) (maxLocals := maxL) (ret := ret) hy ?_ ?_
  · intro args s m h hn
    obtain ⟨meth, c, h1, h2, h3, h4, h5, h6, -, -⟩ := Cond.code_spec hn (atoms_spec (ws := ws) h _ (by rw [hw]; exact List.mem_cons_self))
    exact ⟨meth, c, h1, h2, h3, h4, h5, h6⟩
  · intro p e s m args below meth c s₁ B hml hP _
    have hh0 : s₁.heap = s.heap := by rw [B.state]; rfl
    have ht : ∀ x ∈ c.exceptionTable.toList, False := by
      obtain ⟨meth9, c9, h1, h2, -, -, -, -, h7, -⟩ := Cond.code_spec B.named (atoms_spec (ws := ws) B.pre _ (by rw [hw]; exact List.mem_cons_self))
      cases Option.some.inj (h1.symm.trans B.method)
      cases Option.some.inj (h2.symm.trans (Stand.of_body B).code)
      intro x hx
      rw [Array.isEmpty_iff.mp h7] at hx
      cases hx
    obtain ⟨t, a1, o, b1, b2, b3⟩ := body p e s m args below meth c s₁ B hml ht hP s₁ hh0 (Stand.of_body B)
    exact ⟨t, o, a1, b1, b2, b3⟩
/-- the table of a body with handlers -/
theorem vx_table {p : Program} {x y : MethodName} {S : Spec} {cc bytes : ByteArray} {maxL maxL' : Nat} {ret ret' : Option FieldType} {e : Env} {s s₁ : State} {m : MethodId} {args : Array Value} {below : List Frame} {meth : Method} {c : Code} {hh : List (Nat × Nat × Nat × Nat)}
    (B : BodyLoose p l y S cc maxL ret e s m args below meth c s₁) (h : (Cond.codeWith y bytes maxL' ret' hh).before args s = true) : c.exceptionTable.toList = tableOf hh := by
  obtain ⟨m9, meth9, c9, hn9, h1, h2, -, -, h6, -⟩ := Cond.codeWith_spec h
  cases Option.some.inj (hn9.symm.trans B.named)
  cases Option.some.inj (h1.symm.trans B.method)
  cases Option.some.inj (h2.symm.trans (Stand.of_body B).code)
  rw [← h6, table_eq]
end Bodies
end VXA
/-! ===== END ===== -/
/-! ===== BEGIN a static call of a method with an exception table ===== -/
section VXS
variable {p : Program} {l : Launch} {e : Env} {R : Room} {s : State} {m : MethodId} {args : Array Value} {below : List Frame} {meth : Method} {c : Code} {T : State} {H : Heap} {locs : List Loc} {cells slots : Nat}
abbrev vx_CSW (R : Room) (s : State) (args : Array Value) (own : String) (index : Nat) (y : MethodName) (bytes : ByteArray) (maxL : Nat) (ret : Option FieldType) (hh : List (Nat × Nat × Nat × Nat)) (ws : List Cond) (rm : Room) (mc ms n : Nat) : Prop :=
  (rm.cells = mc ∧ rm.slots = ms ∧ rm.frames + 1 ≤ R.frames ∧ 8 + (maxL + 11) + rm.locals ≤ R.locals ∧ (∀ w ∈ ws, ∀ (a' : Array Value) (U : State), s.WarmedH U.vm → w.before a' U = true) ∧ Cond.codeWith y bytes maxL ret hh ∈ ws) ∧
  (Cond.codeWith y bytes maxL ret hh).before args s = true ∧ (Cond.initialized y.cls).before args s = true ∧ (y.cls ≠ "java/lang/invoke/MethodHandle" ∧ y.cls ≠ "java/lang/invoke/VarHandle") ∧
  (∀ sig, parseMethodDescriptor y.desc = some sig → n = sig.parameters.length) ∧ (Cond.methodLink own index y).before args s = true ∧ (Cond.static y).before args s = true
theorem vx_cwSW {own : String} {index maxL mc ms : Nat} {y : MethodName} {bytes : ByteArray} {ret : Option FieldType} {hh : List (Nat × Nat × Nat × Nat)} {Ts ws ws' : List Cond} {rm : Room} (n : Nat) (ht : ∀ w ∈ Ts, w.before args s = true) (hT : GoodIn Ts (va_wsS own index y ws)) (hw : ws = Cond.codeWith y bytes maxL ret hh :: ws') (hrc : rm.cells = mc) (hrs : rm.slots = ms)
    (hd : y.cls ≠ "java/lang/invoke/MethodHandle" ∧ y.cls ≠ "java/lang/invoke/VarHandle" ∧ (parseMethodDescriptor y.desc).map (fun d => d.parameters.length) = some n) (hR : rm.frames + 1 ≤ R.frames ∧ 8 + (maxL + 11) + rm.locals ≤ R.locals) :
    vx_CSW R s args own index y bytes maxL ret hh ws rm mc ms n := by
  have ok : ∀ w ∈ va_wsS own index y ws, w.before args s = true := fun w h => ht w (hT w h).1
  have hG : GoodIn Ts ws := fun w h => hT w (by unfold va_wsS; exact List.mem_append_right _ h)
  have hc : Cond.codeWith y bytes maxL ret hh ∈ ws := by rw [hw]; exact List.mem_cons_self
  refine ⟨⟨hrc, hrs, hR.1, hR.2, pay_in ht hG, hc⟩, ht _ (hG _ hc).1, ok _ (by simp [va_wsS]), ⟨hd.1, hd.2.1⟩, fun sig h => ?_, ok _ (by simp [va_wsS]), ok _ (by simp [va_wsS])⟩
  have h2 := hd.2.2
  rw [h] at h2
  exact (Option.some.inj h2).symm
theorem vx_callSW (X : Stand p l e R s m args below meth c T locs cells slots) (hexec : p.tables.exec = Jvm.exec) {own : String} {index : Nat} {y : MethodName} {bytes : ByteArray} {maxL : Nat} {ret : Option FieldType} {hh : List (Nat × Nat × Nat × Nat)}
    (hown : s.vm.findClass own = some m.cls) (hlink : (Cond.methodLink own index y).before args s = true) (hstat : (Cond.static y).before args s = true) (hinit : (Cond.initialized y.cls).before args s = true)
    (hcode : (Cond.codeWith y bytes maxL ret hh).before args s = true) (hy : y.cls ≠ "java/lang/invoke/MethodHandle" ∧ y.cls ≠ "java/lang/invoke/VarHandle")
    {W9 : Nat} {Pre : Pt → Array Value → Prop} {Post : Pt → Array Value → Option Value → Pt → Prop} (hK : Back l R p e below s args y 3 W9 Pre Post)
    {g : JFrame} (hg : g.method = m) (hsize : g.locals.size = c.maxLocals) {argsL rest : List Value} (hlen : ∀ sig, parseMethodDescriptor y.desc = some sig → argsL.length = sig.parameters.length)
    (hstack : g.stack = argsL.reverse ++ rest) (hW : 2 * g.monitorRoom + (rest.map fun v => v.category).sum ≤ W9) (hdg : decode c.code g.pc = .ok (.invokestatic index, 3))
    (hpre : ∀ vm₁, s.WarmedH vm₁ → Pre ⟨T.setVm vm₁, locs, cells, slots⟩ argsL.toArray) :
    ∃ (v : Option Value) (vm₁ : Vm) (B : Pt), s.WarmedH vm₁ ∧ Stand p l e R s m args below meth c B.U B.locs B.cells B.slots ∧ Post ⟨T.setVm vm₁, locs, cells, slots⟩ argsL.toArray v B ∧
      ∀ target, Steps p.tables e below (B.U.setTop { g with pc := g.pc + 3, stack := v.toList ++ rest }) target → Steps p.tables e below (T.setTop g) target := by
  obtain ⟨mk, methM, cM, hnamed, hmethM, -, -, -, -, -, -, hsigM⟩ := Cond.codeWith_spec hcode
  have hstatic : methM.isStatic = true := Cond.static_spec hnamed hmethM hstat
  obtain ⟨kP, hkP, -⟩ := className_of_methodNamed hnamed
  have hinitP : kP.init = .initialized := Cond.initialized_spec (findClass_of_methodNamed hnamed) hkP hinit
  obtain ⟨vm₁, X₁, hstep₁⟩ := X.invokestatic hexec hown hlink hnamed hmethM hstatic hkP hinitP hy (g := g) hg (argsL := argsL) (rest := rest) (hlen _ hsigM) hstack hdg
  obtain ⟨v, B, X', hpost, hsteps⟩ := hK m meth c ⟨T.setVm vm₁, locs, cells, slots⟩ { g with stack := rest } (.invokestatic index) mk argsL.toArray X₁ hg hsize hdg hW (X₁.named hnamed) (hpre vm₁ X₁.warmed)
  exact ⟨v, vm₁, B, X₁.warmed, X', hpost, fun target h => hstep₁ _ fun acts => by rw [doInvoke_state]; exact hsteps.trans h⟩
theorem vx_runSW {y : MethodName} {bytes cc : ByteArray} {maxL nL mc ms n index : Nat} {ret : Option FieldType} {hh : List (Nat × Nat × Nat × Nat)} {ws : List Cond} {rm : Room} {Pc : Array Value → State → Prop} {Qc : Array Value → State → Outcome → State → Prop} {free : Addr → Prop} {Ts : List Cond} {own : String} {As rest : List Value} {g : JFrame}
    (S : CallFix p m c cc nL s args Ts own) (hM : Met l y ws rm Pc Qc mc ms free) (cw : vx_CSW R s args own index y bytes maxL ret hh ws rm mc ms n) (hp : PreS s H Pc As)
    (hg : g.method = m) (hn : As.length = n) (hsize : g.locals.size = nL) (hstack : g.stack = As.reverse ++ rest) (hW : 2 * g.monitorRoom + (rest.map fun v => v.category).sum ≤ 8) (hdg : decode cc g.pc = .ok (.invokestatic index, 3)) (hf : cells + mc ≤ R.cells ∧ slots + ms ≤ R.slots) :
    va_Run p l e R s m args below meth c H locs cells slots mc ms g rest (Qc As.toArray) (free) := by
  obtain ⟨⟨hrc, hrs, hfr, hlo, hws, hcw⟩, hcode, hini, hy, hlen, hl, hstt⟩ := cw
  have hK : Back l R p e below s args y 3 8 (PreOf R mc ms Pc) (PostOf Qc mc ms free) := va_backW (hh := hh) (bytes := bytes) (maxL := maxL) (ret := ret) hM hp.1 hrc hrs hfr hlo hws hcw (fun a' U hW => word_at hW (Or.inl (by first | rfl | simp [Cond.onTables, Cond.keeps, Cond.steady])) hini)
  obtain ⟨hx, hb, hml, ho, -⟩ := S
  intro T hT X
  obtain ⟨v, vm₁, ⟨U', l2, c2, s2⟩, hW₁, X', ⟨g', mk, t, L, e1, e2, hq, h1, hL, h2, h3⟩, st⟩ := vx_callSW X hx (hh := hh) (bytes := bytes) (maxL := maxL) (ret := ret) ho hl hstt hini hcode hy hK hg (hsize.trans hml.symm) (argsL := As) (rest := rest) (fun sig h => hn.trans (hlen sig h)) hstack hW (by rw [hb]; exact hdg)
    (fun vm₁ hW₁ => ⟨hf.1, hf.2, hp.2 (T.setVm vm₁) hT hW₁⟩)
  dsimp only [Pt.U, Pt.locs, Pt.cells, Pt.slots] at X' e1 e2 h1 h2 h3 st
  subst h1; subst h2; subst h3
  exact ⟨v, (T.setVm vm₁).calling g' mk As.toArray, t, U', L, hT, X', hL, e1, e2, hq, st⟩
/-- not caught here, past rows that name other classes: it goes on to the caller -/
theorem vx_outP {p : Program} {l : Launch} {e : Env} {R : Room} {s : State} {m : MethodId} {args : Array Value} {below : List Frame} {meth : Method} {c : Code} {H : Heap} {locs : List Loc} {cells slots : Nat} {free : Addr → Prop} {ls : Array Slot} {rest : List Value} {Qc : Array Value → State → Outcome → State → Prop} {XC : String → State → State → Prop}
    {pc : Nat} {own E : String} {ce : Cell} {q : Addr} {mc ms : Nat} (hown : s.vm.findClass own = some m.cls) (hlocks : meth.locks = false)
    (hpass : ∀ z ∈ c.exceptionTable.toList, covers z pc = false ∨ (z.catchType ≠ 0 ∧ ∃ nm : String, (Cond.classLink own z.catchType nm).before args s = true ∧ va_Nc E nm s)) (hcell : H[q]? = some ce) (hv : ce.vm = .none) (hcl : s.vm.findClass E = some ce.cls)
    (hx : ∀ t : State, t.heap = H → s.vm.Alike t.vm → XC E s t) (hf : ∀ z ∈ locs, free z.base) (hc : cells ≤ mc) (hs : slots ≤ ms) :
    vx_W p l e R s m args below meth c H locs cells slots (vx_MQ below Qc XC args s mc ms free) (F0 m pc ls rest) q := by
  intro T hT X
  have hpl : e.platform.magicAccessors = ({} : Platform).magicAccessors := by rw [X.admits.platform]
  obtain ⟨vm', hW', X', st⟩ := X.outThrough hlocks q (g := F0 m pc ls rest) rfl rfl rfl (cell := ce) (by rw [hT]; exact hcell) (by rw [hv]; rfl)
    (by obtain ⟨k9, h9, -⟩ := Vm.findClass_spec hcl; exact ⟨k9, h9⟩) (fun z hz => by
      rcases hpass z hz with h | ⟨hz0, nm, hl1, hn1⟩
      · exact Or.inl h
      · obtain ⟨c6, hc6, hcl6⟩ := Cond.classLink_spec hown hl1 e.platform hpl
        obtain ⟨a8, b8, h1, h2, h3⟩ := hn1
        cases Option.some.inj (h1.symm.trans hcl)
        cases Option.some.inj (h2.symm.trans hc6)
        exact Or.inr ⟨hz0, _, hcl6, h3⟩)
  obtain ⟨g₀, hfr⟩ := X'.frames_eq
  have hcell9 : ((T.setVm vm').setFrames (.throwing q :: below)).heap[q]? = some ce := by
    show T.heap[q]? = some ce
    rw [hT]; exact hcell
  have hend : Ended ((T.setVm vm').setFrames (.throwing q :: below)) below (.threw q) := State.frames_setFrames _ (State.cur_lt_of_frames hfr)
  refine ⟨(T.setVm vm').setFrames (.throwing q :: below), ?_, .threw q, X'.here.running, hend, Or.inr ⟨q, rfl, E, ce, locs, hx _ hT (X'.ends _).1.alike, hcell9, hv, hcl, (X'.ends _).1, (X'.ends _).2.mono hc hs, hf⟩⟩
  rw [X.pushThrowing_eq]
  exact st
/-- a thing of a world lies in the heap -/
theorem vx_lt {D : va_G} {cl : List vw_C} {ws : va_W} {H1 : Heap} (h : va_P D cl ws H1) {k : Nat} {q : Nat × va_E} (hk : ws[k]? = some q) : q.1 < H1.size := (h k q hk).lt
end VXS
/-! ===== END ===== -/
/-! ===== BEGIN methods with a table of their own: called by a name, returning or throwing ===== -/
section VXH
/-! vx_backW, vx_callVX, vx_callSX, vx_callVW, vx_runVW, vx_runVX, vx_runSX, vx_ofWH follow the same proofs as their sisters above (Free/Laws.lean, Shelf42/LK1.lean); vx_outP calls Shelf42/NT130.lean (outThrough). -/
section
variable {l : Launch} {R : Room} {p : Program} {e : Env} {below : List Frame} {s : State} {sargs : Array Value} {y : MethodName} {len W9 : Nat}
theorem vx_backW {ws : List Cond} {rm : Room} {Pc : Array Value → State → Prop} {Qc : Array Value → State → Outcome → State → Prop} {XC : String → State → State → Prop} {mc ms : Nat} {free : Addr → Prop} {bytes : ByteArray} {maxL : Nat} {ret : Option FieldType} {hh : List (Nat × Nat × Nat × Nat)}
    (hM : vx_Met l y ws rm Pc Qc XC mc ms free) (hblind : FrameBlind Pc) (hrc : rm.cells = mc) (hrs : rm.slots = ms)
    (hframes : rm.frames + 1 ≤ R.frames) (hlocals : W9 + (maxL + 11) + rm.locals ≤ R.locals)
    (hws : ∀ w ∈ ws, ∀ a' U, s.WarmedH U.vm → w.before a' U = true) (hcode : Cond.codeWith y bytes maxL ret hh ∈ ws) (hinit : ∀ a' U, s.WarmedH U.vm → (Cond.initialized y.cls).before a' U = true) :
    vx_Back l R p e below s sargs y len W9 (PreOf R mc ms Pc) (PostOf Qc mc ms free) (vx_Post XC mc ms free) := by
  intro m meth c A g ig mk a X hg hsize hdg hW hn hp
  have h1 : (headSpec ws rm).pre.before a A.U = true := atoms_intro fun w hw => hws w hw _ _ X.warmed
  have h2 : (Cond.codeWith y bytes maxL ret hh).before a A.U = true := hws _ hcode _ _ X.warmed
  have h3 : (Cond.initialized y.cls).before a A.U = true := hinit _ _ X.warmed
  have h4 : A.cells + (headSpec ws rm).room.cells ≤ R.cells := by rw [show (headSpec ws rm).room.cells = mc from hrc]; exact hp.1
  have h5 : A.slots + (headSpec ws rm).room.slots ≤ R.slots := by rw [show (headSpec ws rm).room.slots = ms from hrs]; exact hp.2.1
  have hPc : Pc a (A.U.calling g mk a) := hblind _ _ _ _ hp.2.2
  obtain ⟨U, Ls, c0, s0⟩ := A
  dsimp only [Pt.U, Pt.locs, Pt.cells, Pt.slots] at h1 h2 h3 h4 h5 X hn hPc ⊢
  obtain ⟨m9, methY, cY, hn9, hmY, hcY, -, hlY, -⟩ := Cond.codeWith_spec h2
  cases Option.some.inj (hn9.symm.trans hn)
  obtain ⟨kY, hkY, -⟩ := className_of_methodNamed hn
  have hinitY : kY.init = .initialized := Cond.initialized_spec (findClass_of_methodNamed hn) hkY h3
  have h : At U g.method c below := by rw [hg]; exact X.here
  have hlocals9 : W9 + (maxL + 11) + (headSpec ws rm).room.locals ≤ R.locals := hlocals
  have happ : (headSpec ws rm).appliesLoose y e.platform (U.calling g mk a) = true :=
    Spec.appliesLoose_calling (g := g) h hdg hn hkY hinitY
      (X.room_calling (g := g) (R' := (headSpec ws rm).room) hsize hmY hcY hframes (by rw [hlY]; omega) h4 h5) h1
  obtain ⟨mid, hmid⟩ := h.above
  have hfr : (U.setTop g).frames = (.java g :: mid) ++ below := by rw [State.frames_setTop' g h.top, hmid]; rfl
  obtain ⟨o, s₂, hsteps, -, hend, hq⟩ := Steps.callFree hM p X.admits X.cas X.clock (acts := []) hfr happ hPc trivial
  have hq' : vx_Q Qc XC mc ms free a (U.calling g mk a) o s₂ := hq
  rw [State.frames_setTop' g h.top] at hend
  obtain ⟨g₀, hg0⟩ := Option.isSome_iff_exists.mp h.top
  obtain ⟨r, hr⟩ := State.topJava?_eq_some.mp hg0
  have hr' : (({ U with heap := s₂.heap, slotsUsed := s₂.slotsUsed } : State).setVm s₂.vm).frames = .java g₀ :: r := hr
  rcases hq' with ⟨hqc, L, hfe, hL⟩ | ⟨q, rfl, E, ce, L, hx, hce, hcv, hcl, hW₂, hsm, hL⟩
  · obtain ⟨⟨v, rfl⟩, hW₂, e2, q2, q3, q4, q5, q6⟩ := id hfe
    have e3 : s₂ = ({ (U.calling g mk a).setFrames s₂.frames with heap := s₂.heap, slotsUsed := s₂.slotsUsed } : State).setVm s₂.vm := by
      have : s₂ = ({ s₂ with vm := (U.calling g mk a).vm } : State).setVm s₂.vm := rfl
      rw [e2] at this
      exact this
    obtain ⟨c₂, i₂, len₂, hc₂, hd₂, hf₂⟩ := hend
    have hW' : U.WarmedH s₂.vm := hW₂
    have hcc : c₂ = c := by
      have h1 : s₂.code? g.method = U.code? g.method := by
        rw [State.code?_eq, State.code?_eq, hW'.alike.method?]
      exact Option.some.inj (hc₂.symm.trans (h1.trans h.code))
    subst hcc
    have hlen : len₂ = len := by rw [hdg] at hd₂; cases hd₂; rfl
    subst hlen
    have hs₂ : s₂ = (({ U with heap := s₂.heap, slotsUsed := s₂.slotsUsed } : State).setVm s₂.vm).setTop { g with pc := g.pc + len₂, stack := v.toList ++ g.stack } := by
      refine e3.trans ?_
      rw [hf₂, State.calling_eq h.top, State.setFrames_setFrames, State.setTop_of_frames _ hr', hr]
      rfl
    have hsame : U.sameButNew ({ U with heap := s₂.heap, slotsUsed := s₂.slotsUsed } : State) L mc ms := by
      refine ⟨?_, q2, q3, q4, q5, q6⟩
      obtain ⟨t, ht, -⟩ := State.frames_cons hr
      show ({ U with heap := s₂.heap, slotsUsed := s₂.slotsUsed } : State) = { U.setFrames U.frames with heap := s₂.heap, slotsUsed := s₂.slotsUsed }
      rw [State.setFrames_self ht]
    subst hg
    refine Or.inl ⟨v, ⟨(({ U with heap := s₂.heap, slotsUsed := s₂.slotsUsed } : State).setVm s₂.vm), Ls ++ L, c0 + mc, s0 + ms⟩,
      ⟨X.admits, X.cas, X.clock, X.frames, X.room, X.hears, X.method, X.code, (X.here.setHeapUsed s₂.heap s₂.slotsUsed).setVm hW'.alike, X.tail, State.WarmedH.trans X.warmed hW', X.limits, X.bytes, X.same.trans (hsame.setVm s.vm)⟩,
      ⟨g, mk, s₂, L, rfl, rfl, hqc, rfl, hL, rfl, rfl⟩, ?_⟩
    show Steps p.tables e below _ ((({ U with heap := s₂.heap, slotsUsed := s₂.slotsUsed } : State).setVm s₂.vm).setTop { g with pc := g.pc + len₂, stack := v.toList ++ g.stack })
    rw [← hs₂]
    exact hsteps
  · obtain ⟨e2, q2, q3, q4, q5, q6⟩ := id hsm
    have e3 : s₂ = ({ (U.calling g mk a).setFrames s₂.frames with heap := s₂.heap, slotsUsed := s₂.slotsUsed } : State).setVm s₂.vm := by
      have : s₂ = ({ s₂ with vm := (U.calling g mk a).vm } : State).setVm s₂.vm := rfl
      rw [e2] at this
      exact this
    have hf₂ : s₂.frames = .throwing q :: .java g :: U.frames.tail := hend
    have hW' : U.WarmedH s₂.vm := hW₂
    have hs₂ : s₂ = ((({ U with heap := s₂.heap, slotsUsed := s₂.slotsUsed } : State).setVm s₂.vm).setTop g).pushFrame (.throwing q) := by
      refine e3.trans ?_
      rw [hf₂, State.calling_eq h.top, State.setFrames_setFrames, State.pushFrame, State.frames_setTop _ hr', State.setTop_of_frames _ hr', State.setFrames_setFrames, hr]
      rfl
    have hsame : U.sameButNew ({ U with heap := s₂.heap, slotsUsed := s₂.slotsUsed } : State) L mc ms := by
      refine ⟨?_, q2, q3, q4, q5, q6⟩
      obtain ⟨t, ht, -⟩ := State.frames_cons hr
      show ({ U with heap := s₂.heap, slotsUsed := s₂.slotsUsed } : State) = { U.setFrames U.frames with heap := s₂.heap, slotsUsed := s₂.slotsUsed }
      rw [State.setFrames_self ht]
    subst hg
    refine Or.inr ⟨q, ⟨(({ U with heap := s₂.heap, slotsUsed := s₂.slotsUsed } : State).setVm s₂.vm), Ls ++ L, c0 + mc, s0 + ms⟩,
      ⟨X.admits, X.cas, X.clock, X.frames, X.room, X.hears, X.method, X.code, (X.here.setHeapUsed s₂.heap s₂.slotsUsed).setVm hW'.alike, X.tail, State.WarmedH.trans X.warmed hW', X.limits, X.bytes, X.same.trans (hsame.setVm s.vm)⟩,
      ⟨g, mk, s₂, L, E, ce, rfl, rfl, hx, hce, hcv, hcl, rfl, hL, rfl, rfl⟩, ?_⟩
    show Steps p.tables e below _ (((({ U with heap := s₂.heap, slotsUsed := s₂.slotsUsed } : State).setVm s₂.vm).setTop g).pushFrame (.throwing q))
    rw [← hs₂]
    exact hsteps
end
variable {p : Program} {l : Launch} {e : Env} {R : Room} {s : State} {m : MethodId} {args : Array Value} {below : List Frame} {meth : Method} {c : Code} {T : State} {H : Heap} {locs : List Loc} {cells slots : Nat}
theorem vx_callVX (X : Stand p l e R s m args below meth c T locs cells slots) (hexec : p.tables.exec = Jvm.exec) {own C : String} {index : Nat} {y : MethodName} {bytes : ByteArray} {maxL : Nat} {ret : Option FieldType} {hh : List (Nat × Nat × Nat × Nat)}
    (hown : s.vm.findClass own = some m.cls) (hlink : (Cond.methodLink own index y).before args s = true) (hinst : (Cond.instanceMethod y).before args s = true) (hsel : (Cond.selects C y y).before args s = true)
    (hcode : (Cond.codeWith y bytes maxL ret hh).before args s = true) (hy : y.cls ≠ "java/lang/invoke/MethodHandle" ∧ y.cls ≠ "java/lang/invoke/VarHandle")
    {W9 : Nat} {Pre : Pt → Array Value → Prop} {Post : Pt → Array Value → Option Value → Pt → Prop} {PostX : Pt → Array Value → Addr → Pt → Prop} (hK : vx_Back l R p e below s args y 3 W9 Pre Post PostX)
    {b : Addr} {cellB : Cell} (hcell : T.heap[b]? = some cellB) (hobj : cellB.vm.isStatics = false) (hcls : s.vm.findClass C = some cellB.cls)
    {g : JFrame} (hg : g.method = m) (hsize : g.locals.size = c.maxLocals) {argsL rest : List Value} (hlen : ∀ sig, parseMethodDescriptor y.desc = some sig → argsL.length = sig.parameters.length)
    (hstack : g.stack = argsL.reverse ++ .ref b :: rest) (hW : 2 * g.monitorRoom + (rest.map fun v => v.category).sum ≤ W9) (hdg : decode c.code g.pc = .ok (.invokevirtual index, 3))
    (hpre : ∀ vm₁, s.WarmedH vm₁ → Pre ⟨T.setVm vm₁, locs, cells, slots⟩ (Value.ref b :: argsL).toArray) :
    (∃ (v : Option Value) (vm₁ : Vm) (B : Pt), s.WarmedH vm₁ ∧ Stand p l e R s m args below meth c B.U B.locs B.cells B.slots ∧ Post ⟨T.setVm vm₁, locs, cells, slots⟩ (Value.ref b :: argsL).toArray v B ∧
      ∀ target, Steps p.tables e below (B.U.setTop { g with pc := g.pc + 3, stack := v.toList ++ rest }) target → Steps p.tables e below (T.setTop g) target) ∨
    (∃ (q : Addr) (vm₁ : Vm) (B : Pt), s.WarmedH vm₁ ∧ Stand p l e R s m args below meth c B.U B.locs B.cells B.slots ∧ PostX ⟨T.setVm vm₁, locs, cells, slots⟩ (Value.ref b :: argsL).toArray q B ∧
      Steps p.tables e below (T.setTop g) ((B.U.setTop { g with stack := rest }).pushFrame (.throwing q))) := by
  obtain ⟨mk, methM, hnamed, hmethM, hstM, habM⟩ := Cond.instanceMethod_spec hinst
  obtain ⟨m8, methM', cM, hn8, hmethM', -, -, -, -, -, -, hsigM⟩ := Cond.codeWith_spec hcode
  cases Option.some.inj (hn8.symm.trans hnamed)
  cases hmethM.symm.trans hmethM'
  obtain ⟨c2, r2, m2, q1, q2, q3, q4, kP, hkP, hkPi⟩ := Cond.selects_spec hsel
  cases hcls.symm.trans q1
  cases (State.methodFound?_of_named hnamed hy).symm.trans q2
  cases hnamed.symm.trans q3
  have hselP : selectMethod e.platform s.vm cellB.cls mk = .method mk := by rw [Launch.admits_selectMethod X.admits]; exact q4
  obtain ⟨vm₁, X₁, hstep₁⟩ := X.invokevirtual hexec hown hlink hnamed hmethM hstM hkP hkPi hy (a := b) (cell := cellB) hcell
    (fun z h => by rw [h] at hobj; cases hobj) hselP hmethM habM hkP hkPi (g := g) hg (argsL := argsL) (rest := rest) (hlen _ hsigM) hstack hdg
  rcases hK m meth c ⟨T.setVm vm₁, locs, cells, slots⟩ { g with stack := rest } (.invokevirtual index) mk (Value.ref b :: argsL).toArray X₁ hg hsize hdg hW (X₁.named hnamed) (hpre vm₁ X₁.warmed) with ⟨v, B, X', hpost, hsteps⟩ | ⟨q, B, X', hpost, hsteps⟩
  · exact Or.inl ⟨v, vm₁, B, X₁.warmed, X', hpost, fun target h => hstep₁ _ fun acts => by rw [doInvoke_state]; exact hsteps.trans h⟩
  · exact Or.inr ⟨q, vm₁, B, X₁.warmed, X', hpost, hstep₁ _ fun acts => by rw [doInvoke_state]; exact hsteps⟩
theorem vx_callSX (X : Stand p l e R s m args below meth c T locs cells slots) (hexec : p.tables.exec = Jvm.exec) {own : String} {index : Nat} {y : MethodName} {bytes : ByteArray} {maxL : Nat} {ret : Option FieldType} {hh : List (Nat × Nat × Nat × Nat)}
    (hown : s.vm.findClass own = some m.cls) (hlink : (Cond.methodLink own index y).before args s = true) (hstat : (Cond.static y).before args s = true) (hinit : (Cond.initialized y.cls).before args s = true)
    (hcode : (Cond.codeWith y bytes maxL ret hh).before args s = true) (hy : y.cls ≠ "java/lang/invoke/MethodHandle" ∧ y.cls ≠ "java/lang/invoke/VarHandle")
    {W9 : Nat} {Pre : Pt → Array Value → Prop} {Post : Pt → Array Value → Option Value → Pt → Prop} {PostX : Pt → Array Value → Addr → Pt → Prop} (hK : vx_Back l R p e below s args y 3 W9 Pre Post PostX)
    {g : JFrame} (hg : g.method = m) (hsize : g.locals.size = c.maxLocals) {argsL rest : List Value} (hlen : ∀ sig, parseMethodDescriptor y.desc = some sig → argsL.length = sig.parameters.length)
    (hstack : g.stack = argsL.reverse ++ rest) (hW : 2 * g.monitorRoom + (rest.map fun v => v.category).sum ≤ W9) (hdg : decode c.code g.pc = .ok (.invokestatic index, 3))
    (hpre : ∀ vm₁, s.WarmedH vm₁ → Pre ⟨T.setVm vm₁, locs, cells, slots⟩ argsL.toArray) :
    (∃ (v : Option Value) (vm₁ : Vm) (B : Pt), s.WarmedH vm₁ ∧ Stand p l e R s m args below meth c B.U B.locs B.cells B.slots ∧ Post ⟨T.setVm vm₁, locs, cells, slots⟩ argsL.toArray v B ∧
      ∀ target, Steps p.tables e below (B.U.setTop { g with pc := g.pc + 3, stack := v.toList ++ rest }) target → Steps p.tables e below (T.setTop g) target) ∨
    (∃ (q : Addr) (vm₁ : Vm) (B : Pt), s.WarmedH vm₁ ∧ Stand p l e R s m args below meth c B.U B.locs B.cells B.slots ∧ PostX ⟨T.setVm vm₁, locs, cells, slots⟩ argsL.toArray q B ∧
      Steps p.tables e below (T.setTop g) ((B.U.setTop { g with stack := rest }).pushFrame (.throwing q))) := by
  obtain ⟨mk, methM, cM, hnamed, hmethM, -, -, -, -, -, -, hsigM⟩ := Cond.codeWith_spec hcode
  have hstatic : methM.isStatic = true := Cond.static_spec hnamed hmethM hstat
  obtain ⟨kP, hkP, -⟩ := className_of_methodNamed hnamed
  have hinitP : kP.init = .initialized := Cond.initialized_spec (findClass_of_methodNamed hnamed) hkP hinit
  obtain ⟨vm₁, X₁, hstep₁⟩ := X.invokestatic hexec hown hlink hnamed hmethM hstatic hkP hinitP hy (g := g) hg (argsL := argsL) (rest := rest) (hlen _ hsigM) hstack hdg
  rcases hK m meth c ⟨T.setVm vm₁, locs, cells, slots⟩ { g with stack := rest } (.invokestatic index) mk argsL.toArray X₁ hg hsize hdg hW (X₁.named hnamed) (hpre vm₁ X₁.warmed) with ⟨v, B, X', hpost, hsteps⟩ | ⟨q, B, X', hpost, hsteps⟩
  · exact Or.inl ⟨v, vm₁, B, X₁.warmed, X', hpost, fun target h => hstep₁ _ fun acts => by rw [doInvoke_state]; exact hsteps.trans h⟩
  · exact Or.inr ⟨q, vm₁, B, X₁.warmed, X', hpost, hstep₁ _ fun acts => by rw [doInvoke_state]; exact hsteps⟩
theorem vx_callVW (X : Stand p l e R s m args below meth c T locs cells slots) (hexec : p.tables.exec = Jvm.exec) {own C : String} {index : Nat} {y : MethodName} {bytes : ByteArray} {maxL : Nat} {ret : Option FieldType} {hh : List (Nat × Nat × Nat × Nat)}
    (hown : s.vm.findClass own = some m.cls) (hlink : (Cond.methodLink own index y).before args s = true) (hinst : (Cond.instanceMethod y).before args s = true) (hsel : (Cond.selects C y y).before args s = true)
    (hcode : (Cond.codeWith y bytes maxL ret hh).before args s = true) (hy : y.cls ≠ "java/lang/invoke/MethodHandle" ∧ y.cls ≠ "java/lang/invoke/VarHandle")
    {W9 : Nat} {Pre : Pt → Array Value → Prop} {Post : Pt → Array Value → Option Value → Pt → Prop} (hK : Back l R p e below s args y 3 W9 Pre Post)
    {b : Addr} {cellB : Cell} (hcell : T.heap[b]? = some cellB) (hobj : cellB.vm.isStatics = false) (hcls : s.vm.findClass C = some cellB.cls)
    {g : JFrame} (hg : g.method = m) (hsize : g.locals.size = c.maxLocals) {argsL rest : List Value} (hlen : ∀ sig, parseMethodDescriptor y.desc = some sig → argsL.length = sig.parameters.length)
    (hstack : g.stack = argsL.reverse ++ .ref b :: rest) (hW : 2 * g.monitorRoom + (rest.map fun v => v.category).sum ≤ W9) (hdg : decode c.code g.pc = .ok (.invokevirtual index, 3))
    (hpre : ∀ vm₁, s.WarmedH vm₁ → Pre ⟨T.setVm vm₁, locs, cells, slots⟩ (Value.ref b :: argsL).toArray) :
    ∃ (v : Option Value) (vm₁ : Vm) (B : Pt), s.WarmedH vm₁ ∧ Stand p l e R s m args below meth c B.U B.locs B.cells B.slots ∧ Post ⟨T.setVm vm₁, locs, cells, slots⟩ (Value.ref b :: argsL).toArray v B ∧
      ∀ target, Steps p.tables e below (B.U.setTop { g with pc := g.pc + 3, stack := v.toList ++ rest }) target → Steps p.tables e below (T.setTop g) target := by
  obtain ⟨mk, methM, hnamed, hmethM, hstM, habM⟩ := Cond.instanceMethod_spec hinst
  obtain ⟨m8, methM', cM, hn8, hmethM', -, -, -, -, -, -, hsigM⟩ := Cond.codeWith_spec hcode
  cases Option.some.inj (hn8.symm.trans hnamed)
  cases hmethM.symm.trans hmethM'
  obtain ⟨c2, r2, m2, q1, q2, q3, q4, kP, hkP, hkPi⟩ := Cond.selects_spec hsel
  cases hcls.symm.trans q1
  cases (State.methodFound?_of_named hnamed hy).symm.trans q2
  cases hnamed.symm.trans q3
  have hselP : selectMethod e.platform s.vm cellB.cls mk = .method mk := by rw [Launch.admits_selectMethod X.admits]; exact q4
  obtain ⟨vm₁, X₁, hstep₁⟩ := X.invokevirtual hexec hown hlink hnamed hmethM hstM hkP hkPi hy (a := b) (cell := cellB) hcell
    (fun z h => by rw [h] at hobj; cases hobj) hselP hmethM habM hkP hkPi (g := g) hg (argsL := argsL) (rest := rest) (hlen _ hsigM) hstack hdg
  obtain ⟨v, B, X', hpost, hsteps⟩ := hK m meth c ⟨T.setVm vm₁, locs, cells, slots⟩ { g with stack := rest } (.invokevirtual index) mk (Value.ref b :: argsL).toArray X₁ hg hsize hdg hW (X₁.named hnamed) (hpre vm₁ X₁.warmed)
  exact ⟨v, vm₁, B, X₁.warmed, X', hpost, fun target h => hstep₁ _ fun acts => by rw [doInvoke_state]; exact hsteps.trans h⟩
abbrev vx_CVW (R : Room) (s : State) (args : Array Value) (own C : String) (index : Nat) (y : MethodName) (bytes : ByteArray) (maxL : Nat) (ret : Option FieldType) (hh : List (Nat × Nat × Nat × Nat)) (ws : List Cond) (rm : Room) (mc ms n : Nat) : Prop :=
  (rm.cells = mc ∧ rm.slots = ms ∧ rm.frames + 1 ≤ R.frames ∧ 8 + (maxL + 11) + rm.locals ≤ R.locals ∧ (∀ w ∈ ws, ∀ (a' : Array Value) (U : State), s.WarmedH U.vm → w.before a' U = true) ∧ Cond.codeWith y bytes maxL ret hh ∈ ws) ∧
  (Cond.codeWith y bytes maxL ret hh).before args s = true ∧ (Cond.initialized y.cls).before args s = true ∧ (y.cls ≠ "java/lang/invoke/MethodHandle" ∧ y.cls ≠ "java/lang/invoke/VarHandle") ∧
  (∀ sig, parseMethodDescriptor y.desc = some sig → n = sig.parameters.length) ∧ (Cond.methodLink own index y).before args s = true ∧ (Cond.instanceMethod y).before args s = true ∧ (Cond.selects C y y).before args s = true
theorem vx_cwVW {own C : String} {index maxL mc ms : Nat} {y : MethodName} {bytes : ByteArray} {ret : Option FieldType} {hh : List (Nat × Nat × Nat × Nat)} {Ts ws ws' : List Cond} {rm : Room} (n : Nat) (ht : ∀ w ∈ Ts, w.before args s = true) (hT : GoodIn Ts (wsV own index C y ws)) (hw : ws = Cond.codeWith y bytes maxL ret hh :: ws') (hrc : rm.cells = mc) (hrs : rm.slots = ms)
    (hd : y.cls = C ∧ y.cls ≠ "java/lang/invoke/MethodHandle" ∧ y.cls ≠ "java/lang/invoke/VarHandle" ∧ (parseMethodDescriptor y.desc).map (fun d => d.parameters.length) = some n) (hR : rm.frames + 1 ≤ R.frames ∧ 8 + (maxL + 11) + rm.locals ≤ R.locals) :
    vx_CVW R s args own C index y bytes maxL ret hh ws rm mc ms n := by
  obtain ⟨hC, hd⟩ := hd
  subst hC
  have ok : ∀ w ∈ wsV own index y.cls y ws, w.before args s = true := fun w h => ht w (hT w h).1
  have hG : GoodIn Ts ws := fun w h => hT w (by unfold wsV; exact List.mem_append_right _ h)
  have hc : Cond.codeWith y bytes maxL ret hh ∈ ws := by rw [hw]; exact List.mem_cons_self
  refine ⟨⟨hrc, hrs, hR.1, hR.2, pay_in ht hG, hc⟩, ht _ (hG _ hc).1, ok _ (by simp [wsV]), ⟨hd.1, hd.2.1⟩, fun sig h => ?_, ok _ (by simp [wsV]), ok _ (by simp [wsV]), ok _ (by simp [wsV])⟩
  have h2 := hd.2.2
  rw [h] at h2
  exact (Option.some.inj h2).symm
theorem vx_runVW {y : MethodName} {bytes cc : ByteArray} {maxL nL mc ms n index : Nat} {ret : Option FieldType} {hh : List (Nat × Nat × Nat × Nat)} {ws : List Cond} {rm : Room} {Pc : Array Value → State → Prop} {Qc : Array Value → State → Outcome → State → Prop} {free : Addr → Prop} {Ts : List Cond} {own C : String} {b : Addr} {As rest : List Value} {g : JFrame}
    (S : CallFix p m c cc nL s args Ts own) (hM : Met l y ws rm Pc Qc mc ms free) (cw : vx_CVW R s args own C index y bytes maxL ret hh ws rm mc ms n) (hp : PreV s H C b Pc As)
    (hg : g.method = m) (hn : As.length = n) (hsize : g.locals.size = nL) (hstack : g.stack = As.reverse ++ .ref b :: rest) (hW : 2 * g.monitorRoom + (rest.map fun v => v.category).sum ≤ 8) (hdg : decode cc g.pc = .ok (.invokevirtual index, 3)) (hf : cells + mc ≤ R.cells ∧ slots + ms ≤ R.slots) :
    va_Run p l e R s m args below meth c H locs cells slots mc ms g rest (Qc (Value.ref b :: As).toArray) free := by
  obtain ⟨⟨hrc, hrs, hfr, hlo, hws, hcw⟩, hcode, hini, hy, hlen, hl, hin, hse⟩ := cw
  have hK : Back l R p e below s args y 3 8 (PreOf R mc ms Pc) (PostOf Qc mc ms free) := va_backW (hh := hh) (bytes := bytes) (maxL := maxL) (ret := ret) hM hp.1 hrc hrs hfr hlo hws hcw (fun a' U hW => word_at hW (Or.inl (by first | rfl | simp [Cond.onTables, Cond.keeps, Cond.steady])) hini)
  obtain ⟨hx, hb, hml, ho, -⟩ := S
  obtain ⟨-, ⟨cellB, hcB, hoB, hclB⟩, hPc⟩ := hp
  intro T hT X
  obtain ⟨v, vm₁, ⟨U', l2, c2, s2⟩, hW₁, X', ⟨g', mk, t, L, e1, e2, hq, h1, hL, h2, h3⟩, st⟩ := vx_callVW X hx (C := C) (hh := hh) (bytes := bytes) (maxL := maxL) (ret := ret) ho hl hin hse hcode hy hK (by rw [hT]; exact hcB) hoB hclB hg (hsize.trans hml.symm) (argsL := As) (rest := rest) (fun sig h => hn.trans (hlen sig h)) hstack hW (by rw [hb]; exact hdg)
    (fun vm₁ hW₁ => ⟨hf.1, hf.2, hPc (T.setVm vm₁) hT hW₁⟩)
  dsimp only [Pt.U, Pt.locs, Pt.cells, Pt.slots] at X' e1 e2 h1 h2 h3 st
  subst h1; subst h2; subst h3
  exact ⟨v, (T.setVm vm₁).calling g' mk (Value.ref b :: As).toArray, t, U', L, hT, X', hL, e1, e2, hq, st⟩
section
variable {y : MethodName} {bytes cc : ByteArray} {maxL nL mc ms n index : Nat} {ret : Option FieldType} {ws : List Cond} {rm : Room} {Pc : Array Value → State → Prop} {Qc : Array Value → State → Outcome → State → Prop} {XC : String → State → State → Prop} {free : Addr → Prop} {Ts : List Cond} {own C : String} {b : Addr} {As rest : List Value} {g : JFrame}
theorem vx_runVX {hh : List (Nat × Nat × Nat × Nat)} (S : CallFix p m c cc nL s args Ts own) (hM : vx_Met l y ws rm Pc Qc XC mc ms free) (cw : vx_CVW R s args own C index y bytes maxL ret hh ws rm mc ms n) (hp : PreV s H C b Pc As)
    (hg : g.method = m) (hn : As.length = n) (hsize : g.locals.size = nL) (hstack : g.stack = As.reverse ++ .ref b :: rest) (hW : 2 * g.monitorRoom + (rest.map fun v => v.category).sum ≤ 8) (hdg : decode cc g.pc = .ok (.invokevirtual index, 3)) (hf : cells + mc ≤ R.cells ∧ slots + ms ≤ R.slots) :
    vx_Run p l e R s m args below meth c H locs cells slots mc ms g rest (Qc (Value.ref b :: As).toArray) XC free := by
  obtain ⟨⟨hrc, hrs, hfr, hlo, hws, hcw⟩, hcode, hini, hy, hlen, hl, hin, hse⟩ := cw
  have hK : vx_Back l R p e below s args y 3 8 (PreOf R mc ms Pc) (PostOf Qc mc ms free) (vx_Post XC mc ms free) := vx_backW (hh := hh) (bytes := bytes) (maxL := maxL) (ret := ret) hM hp.1 hrc hrs hfr hlo hws hcw (fun a' U hW => word_at hW (Or.inl (by first | rfl | simp [Cond.onTables, Cond.keeps, Cond.steady])) hini)
  obtain ⟨hx, hb, hml, ho, -⟩ := S
  obtain ⟨-, ⟨cellB, hcB, hoB, hclB⟩, hPc⟩ := hp
  intro T hT X
  rcases vx_callVX X hx (C := C) (hh := hh) (bytes := bytes) (maxL := maxL) (ret := ret) ho hl hin hse hcode hy hK (by rw [hT]; exact hcB) hoB hclB hg (hsize.trans hml.symm) (argsL := As) (rest := rest) (fun sig h => hn.trans (hlen sig h)) hstack hW (by rw [hb]; exact hdg)
    (fun vm₁ hW₁ => ⟨hf.1, hf.2, hPc (T.setVm vm₁) hT hW₁⟩) with ⟨v, vm₁, ⟨U', l2, c2, s2⟩, hW₁, X', ⟨g', mk, t, L, e1, e2, hq, h1, hL, h2, h3⟩, st⟩ | ⟨q, vm₁, ⟨U', l2, c2, s2⟩, hW₁, X', ⟨g', mk, t, L, E, ce, e1, e2, hq, hce, hcv, hcl, h1, hL, h2, h3⟩, st⟩
  · dsimp only [Pt.U, Pt.locs, Pt.cells, Pt.slots] at X' e1 e2 h1 h2 h3 st
    subst h1; subst h2; subst h3
    exact Or.inl ⟨v, (T.setVm vm₁).calling g' mk (Value.ref b :: As).toArray, t, U', L, hT, X', hL, e1, e2, hq, st⟩
  · dsimp only [Pt.U, Pt.locs, Pt.cells, Pt.slots] at X' e1 e2 h1 h2 h3 st hcl
    subst h1; subst h2; subst h3
    exact Or.inr ⟨q, (T.setVm vm₁).calling g' mk (Value.ref b :: As).toArray, t, U', L, E, ce, hT, X', hL, e1, e2, hq, hce, hcv, vx_cls hW₁ hcl, st⟩
theorem vx_runSX {hh : List (Nat × Nat × Nat × Nat)} (S : CallFix p m c cc nL s args Ts own) (hM : vx_Met l y ws rm Pc Qc XC mc ms free) (cw : vx_CSW R s args own index y bytes maxL ret hh ws rm mc ms n) (hp : PreS s H Pc As)
    (hg : g.method = m) (hn : As.length = n) (hsize : g.locals.size = nL) (hstack : g.stack = As.reverse ++ rest) (hW : 2 * g.monitorRoom + (rest.map fun v => v.category).sum ≤ 8) (hdg : decode cc g.pc = .ok (.invokestatic index, 3)) (hf : cells + mc ≤ R.cells ∧ slots + ms ≤ R.slots) :
    vx_Run p l e R s m args below meth c H locs cells slots mc ms g rest (Qc As.toArray) XC free := by
  obtain ⟨⟨hrc, hrs, hfr, hlo, hws, hcw⟩, hcode, hini, hy, hlen, hl, hstt⟩ := cw
  have hK : vx_Back l R p e below s args y 3 8 (PreOf R mc ms Pc) (PostOf Qc mc ms free) (vx_Post XC mc ms free) := vx_backW (hh := hh) (bytes := bytes) (maxL := maxL) (ret := ret) hM hp.1 hrc hrs hfr hlo hws hcw (fun a' U hW => word_at hW (Or.inl (by first | rfl | simp [Cond.onTables, Cond.keeps, Cond.steady])) hini)
  obtain ⟨hx, hb, hml, ho, -⟩ := S
  intro T hT X
  rcases vx_callSX X hx (hh := hh) (bytes := bytes) (maxL := maxL) (ret := ret) ho hl hstt hini hcode hy hK hg (hsize.trans hml.symm) (argsL := As) (rest := rest) (fun sig h => hn.trans (hlen sig h)) hstack hW (by rw [hb]; exact hdg)
    (fun vm₁ hW₁ => ⟨hf.1, hf.2, hp.2 (T.setVm vm₁) hT hW₁⟩) with ⟨v, vm₁, ⟨U', l2, c2, s2⟩, hW₁, X', ⟨g', mk, t, L, e1, e2, hq, h1, hL, h2, h3⟩, st⟩ | ⟨q, vm₁, ⟨U', l2, c2, s2⟩, hW₁, X', ⟨g', mk, t, L, E, ce, e1, e2, hq, hce, hcv, hcl, h1, hL, h2, h3⟩, st⟩
  · dsimp only [Pt.U, Pt.locs, Pt.cells, Pt.slots] at X' e1 e2 h1 h2 h3 st
    subst h1; subst h2; subst h3
    exact Or.inl ⟨v, (T.setVm vm₁).calling g' mk As.toArray, t, U', L, hT, X', hL, e1, e2, hq, st⟩
  · dsimp only [Pt.U, Pt.locs, Pt.cells, Pt.slots] at X' e1 e2 h1 h2 h3 st hcl
    subst h1; subst h2; subst h3
    exact Or.inr ⟨q, (T.setVm vm₁).calling g' mk As.toArray, t, U', L, E, ce, hT, X', hL, e1, e2, hq, hce, hcv, vx_cls hW₁ hcl, st⟩
end
end VXH
theorem vx_ofWH {l : Launch} {y : MethodName} {ws ws' : List Cond} {rm : Room} {Pc : Array Value → State → Prop} {Qc : Array Value → State → Outcome → State → Prop} {XC : String → State → State → Prop} {mc ms : Nat} {free : Addr → Prop} {cc : ByteArray} {maxL : Nat} {ret : Option FieldType} {hh : List (Nat × Nat × Nat × Nat)}
    (hy : plainName y.cls = true) (hw : ws = Cond.codeWith y cc maxL ret hh :: ws')
    (body : ∀ p e s m args below meth c s₁, BodyLoose p l y (headSpec ws rm) cc maxL ret e s m args below meth c s₁ → c.maxLocals = maxL → Pc args s →
      W p l e (headSpec ws rm).room s m args below meth c s.heap [] 0 0 (vx_MQ below Qc XC args s mc ms free) (entryFrame m args maxL)) : vx_Met l y ws rm Pc Qc XC mc ms free := by
  refine MetFree.of_bodyS (code := cc) (maxLocals := maxL) (ret := ret) hy ?_ ?_
  · intro args s m h hn
    obtain ⟨m9, meth, c, hn9, h1, h2, h3, h4, -, h5, h6, -⟩ := Cond.codeWith_spec (atoms_spec (ws := ws) h _ (by rw [hw]; exact List.mem_cons_self))
    cases hn.symm.trans hn9
    exact ⟨meth, c, h1, h2, h3, h4, h5, h6⟩
  · intro p e s m args below meth c s₁ B hml hP _
    have hh0 : s₁.heap = s.heap := by rw [B.state]; rfl
    obtain ⟨t, a1, o, b1, b2, b3⟩ := body p e s m args below meth c s₁ B hml hP s₁ hh0 (Stand.of_body B)
    exact ⟨t, o, a1, b1, b2, b3⟩
/-! ===== END ===== -/
end
section
/-! MY NAMES: the words of the tables that go over a call, one list for all methods -/
def aw : List Cond := lw_tbl.filter goodWord
theorem aw_good {w : Cond} (h : w ∈ aw) : (w.onTables && w.keeps) = true ∨ ∃ ty, w = .arrayClass ty := good_of_word (List.mem_filter.mp h).2
theorem aw_1 {i : Nat} {w : Cond} (h : tables_1_1[i]? = some w) (g : goodWord w = true) : w ∈ aw := List.mem_filter.mpr ⟨List.mem_append_right _ (List.mem_append_left _ (List.mem_of_getElem? h)), g⟩
theorem aw_2 {i : Nat} {w : Cond} (h : tables_1_2[i]? = some w) (g : goodWord w = true) : w ∈ aw := List.mem_filter.mpr ⟨List.mem_append_right _ (List.mem_append_right _ (List.mem_append_left _ (List.mem_of_getElem? h))), g⟩
theorem aw_3 {i : Nat} {w : Cond} (h : tables_1_3[i]? = some w) (g : goodWord w = true) : w ∈ aw := List.mem_filter.mpr ⟨List.mem_append_right _ (List.mem_append_right _ (List.mem_append_right _ (List.mem_of_getElem? h))), g⟩
theorem aw_s {w : Cond} (h : (decide (w ∈ k2_sels lw_privs) && goodWord w) = true) : w ∈ aw := by
  rw [Bool.and_eq_true, decide_eq_true_eq] at h
  exact List.mem_filter.mpr ⟨List.mem_append_left _ h.1, h.2⟩
theorem gd_V {own C : String} {idx : Nat} {y : MethodName} {bytes : ByteArray} {maxL : Nat} {ret : Option FieldType} (h1 : Cond.methodLink own idx y ∈ aw) (h2 : Cond.instanceMethod y ∈ aw) (h3 : Cond.selects C y y ∈ aw) (h4 : Cond.initialized C ∈ aw) (h5 : Cond.code y bytes maxL ret ∈ aw) : GoodIn aw (wsV own idx C y (Cond.code y bytes maxL ret :: aw)) := by
  intro w hw
  have hm : w ∈ aw := by
    rcases List.mem_append.mp hw with h | h
    · rcases List.mem_cons.mp h with rfl | h
      · exact h1
      rcases List.mem_cons.mp h with rfl | h
      · exact h2
      rcases List.mem_cons.mp h with rfl | h
      · exact h3
      rcases List.mem_cons.mp h with rfl | h
      · exact h4
      exact absurd h List.not_mem_nil
    · rcases List.mem_cons.mp h with rfl | h
      · exact h5
      exact h
  exact ⟨hm, aw_good hm⟩
theorem gd_S {own : String} {idx : Nat} {y : MethodName} {bytes : ByteArray} {maxL : Nat} {ret : Option FieldType} (h1 : Cond.methodLink own idx y ∈ aw) (h2 : Cond.static y ∈ aw) (h4 : Cond.initialized y.cls ∈ aw) (h5 : Cond.code y bytes maxL ret ∈ aw) : GoodIn aw (va_wsS own idx y (Cond.code y bytes maxL ret :: aw)) := by
  intro w hw
  have hm : w ∈ aw := by
    rcases List.mem_append.mp hw with h | h
    · rcases List.mem_cons.mp h with rfl | h
      · exact h1
      rcases List.mem_cons.mp h with rfl | h
      · exact h2
      rcases List.mem_cons.mp h with rfl | h
      · exact h4
      exact absurd h List.not_mem_nil
    · rcases List.mem_cons.mp h with rfl | h
      · exact h5
      exact h
  exact ⟨hm, aw_good hm⟩
theorem cw_V {R : Room} {s : State} {args : Array Value} {own C : String} {index : Nat} {y : MethodName} {bytes : ByteArray} {maxL : Nat} {ret : Option FieldType} {rm : Room} (n : Nat) (hts : ∀ w ∈ aw, w.before args s = true) (h1 : Cond.methodLink own index y ∈ aw) (h2 : Cond.instanceMethod y ∈ aw) (h3 : Cond.selects C y y ∈ aw) (h4 : Cond.initialized C ∈ aw) (h5 : Cond.code y bytes maxL ret ∈ aw)
    (hd : y.cls = C ∧ y.cls ≠ "java/lang/invoke/MethodHandle" ∧ y.cls ≠ "java/lang/invoke/VarHandle" ∧ (parseMethodDescriptor y.desc).map (fun d => d.parameters.length) = some n) (hR : rm.frames + 1 ≤ R.frames ∧ 8 + (maxL + 11) + rm.locals ≤ R.locals) :
    CallW R s args own C index y bytes maxL ret (Cond.code y bytes maxL ret :: aw) rm rm.cells rm.slots n := cwV n hts (gd_V h1 h2 h3 h4 h5) rfl rfl rfl hd hR
theorem cw_S {R : Room} {s : State} {args : Array Value} {own : String} {index : Nat} {y : MethodName} {bytes : ByteArray} {maxL : Nat} {ret : Option FieldType} {rm : Room} (n : Nat) (hts : ∀ w ∈ aw, w.before args s = true) (h1 : Cond.methodLink own index y ∈ aw) (h2 : Cond.static y ∈ aw) (h4 : Cond.initialized y.cls ∈ aw) (h5 : Cond.code y bytes maxL ret ∈ aw)
    (hd : y.cls ≠ "java/lang/invoke/MethodHandle" ∧ y.cls ≠ "java/lang/invoke/VarHandle" ∧ (parseMethodDescriptor y.desc).map (fun d => d.parameters.length) = some n) (hR : rm.frames + 1 ≤ R.frames ∧ 8 + (maxL + 11) + rm.locals ≤ R.locals) :
    CallB R s args own index y bytes maxL ret (Cond.code y bytes maxL ret :: aw) rm rm.cells rm.slots n ∧ (Cond.static y).before args s = true := va_cwS n hts (gd_S h1 h2 h4 h5) rfl rfl rfl hd hR
/-- a method's room, by how deep its calls go -/
abbrev rmD (d : Nat) : Room := { frames := d, cells := 0, slots := 0, locals := 36 * d }

def F_Head : u_T := fun k => match k with
  | 0 => ("HeadDesk$Head", "values", "[I", true)
  | _ => ("HeadDesk$Head", "versions", "[I", true)
def t_Head : Nat → FieldType := fun k => match k with
  | 0 => .array .int
  | _ => .array .int
theorem n_Head : ∀ a, a < 2 → ∀ b, b < 2 → a ≠ b → (F_Head a).2.1 ≠ (F_Head b).2.1 := by decide +kernel
theorem k_Head : ∀ k, k < 2 → parseFieldDescriptor (F_Head k).2.2.1 = some (t_Head k) := by decide +kernel
theorem a_Head : ∀ w ∈ u_ws "HeadDesk$Head" F_Head 2, w ∈ aw := by decide +kernel
def F_Reader : u_T := fun k => match k with
  | 0 => ("HeadDesk$Reader", "tape", "LHeadDesk$Tape;", true)
  | 1 => ("HeadDesk$Reader", "nameStarts", "[I", true)
  | 2 => ("HeadDesk$Reader", "nameEnds", "[I", true)
  | 3 => ("HeadDesk$Reader", "draft", "LHeadDesk$Head;", false)
  | 4 => ("HeadDesk$Reader", "names", "I", false)
  | 5 => ("HeadDesk$Reader", "kind", "I", false)
  | 6 => ("HeadDesk$Reader", "place", "I", false)
  | 7 => ("HeadDesk$Reader", "stuck", "I", false)
  | 8 => ("HeadDesk$Reader", "number", "I", false)
  | 9 => ("HeadDesk$Reader", "wordStart", "I", false)
  | _ => ("HeadDesk$Reader", "wordEnd", "I", false)
def t_Reader : Nat → FieldType := fun k => match k with
  | 0 => (.object "HeadDesk$Tape")
  | 1 => .array .int
  | 2 => .array .int
  | 3 => (.object "HeadDesk$Head")
  | 4 => .int
  | 5 => .int
  | 6 => .int
  | 7 => .int
  | 8 => .int
  | 9 => .int
  | _ => .int
theorem n_Reader : ∀ a, a < 11 → ∀ b, b < 11 → a ≠ b → (F_Reader a).2.1 ≠ (F_Reader b).2.1 := by decide +kernel
theorem k_Reader : ∀ k, k < 11 → parseFieldDescriptor (F_Reader k).2.2.1 = some (t_Reader k) := by decide +kernel
theorem a_Reader : ∀ w ∈ u_ws "HeadDesk$Reader" F_Reader 11, w ∈ aw := by decide +kernel
def F_Tape : u_T := fun k => match k with
  | 0 => ("HeadDesk$Tape", "marks", "[C", true)
  | _ => ("HeadDesk$Tape", "length", "I", false)
def t_Tape : Nat → FieldType := fun k => match k with
  | 0 => .array .char
  | _ => .int
theorem n_Tape : ∀ a, a < 2 → ∀ b, b < 2 → a ≠ b → (F_Tape a).2.1 ≠ (F_Tape b).2.1 := by decide +kernel
theorem k_Tape : ∀ k, k < 2 → parseFieldDescriptor (F_Tape k).2.2.1 = some (t_Tape k) := by decide +kernel
theorem a_Tape : ∀ w ∈ u_ws "HeadDesk$Tape" F_Tape 2, w ∈ aw := by decide +kernel
def F_Desk : u_T := fun k => match k with
  | 0 => ("HeadDesk", "tape", "LHeadDesk$Tape;", true)
  | 1 => ("HeadDesk", "reader", "LHeadDesk$Reader;", true)
  | 2 => ("HeadDesk", "good", "LHeadDesk$Head;", false)
  | 3 => ("HeadDesk", "goodTexts", "I", false)
  | _ => ("HeadDesk", "latestFault", "I", false)
def t_Desk : Nat → FieldType := fun k => match k with
  | 0 => (.object "HeadDesk$Tape")
  | 1 => (.object "HeadDesk$Reader")
  | 2 => (.object "HeadDesk$Head")
  | 3 => .int
  | _ => .int
theorem n_Desk : ∀ a, a < 5 → ∀ b, b < 5 → a ≠ b → (F_Desk a).2.1 ≠ (F_Desk b).2.1 := by decide +kernel
theorem k_Desk : ∀ k, k < 5 → parseFieldDescriptor (F_Desk k).2.2.1 = some (t_Desk k) := by decide +kernel
theorem a_Desk : ∀ w ∈ u_ws "HeadDesk" F_Desk 5, w ∈ aw := by decide +kernel
def F_Mod : u_T := fun k => match k with
  | 0 => ("HeadDeskModel", "thrown", "I", false)
  | 1 => ("HeadDeskModel", "tape", "[I", true)
  | 2 => ("HeadDeskModel", "taped", "I", false)
  | 3 => ("HeadDeskModel", "fault", "I", false)
  | 4 => ("HeadDeskModel", "at", "I", false)
  | 5 => ("HeadDeskModel", "bad", "Z", false)
  | 6 => ("HeadDeskModel", "badPlace", "I", false)
  | 7 => ("HeadDeskModel", "path", "I", false)
  | 8 => ("HeadDeskModel", "variant", "I", false)
  | 9 => ("HeadDeskModel", "rangeKind", "I", false)
  | 10 => ("HeadDeskModel", "rangeA", "I", false)
  | 11 => ("HeadDeskModel", "rangeB", "I", false)
  | 12 => ("HeadDeskModel", "matches", "I", false)
  | 13 => ("HeadDeskModel", "maxAge", "I", false)
  | 14 => ("HeadDeskModel", "maxStale", "I", false)
  | 15 => ("HeadDeskModel", "minFresh", "I", false)
  | 16 => ("HeadDeskModel", "isHead", "Z", false)
  | 17 => ("HeadDeskModel", "star", "Z", false)
  | 18 => ("HeadDeskModel", "noCache", "Z", false)
  | 19 => ("HeadDeskModel", "onlyIfCached", "Z", false)
  | 20 => ("HeadDeskModel", "match", "[I", true)
  | 21 => ("HeadDeskModel", "length", "I", false)
  | 22 => ("HeadDeskModel", "keyMask", "I", false)
  | 23 => ("HeadDeskModel", "live", "I", false)
  | 24 => ("HeadDeskModel", "ifError", "I", false)
  | 25 => ("HeadDeskModel", "ifLate", "I", false)
  | 26 => ("HeadDeskModel", "noStore", "Z", false)
  | 27 => ("HeadDeskModel", "thingNoCache", "Z", false)
  | 28 => ("HeadDeskModel", "names", "I", false)
  | 29 => ("HeadDeskModel", "nameFrom", "[I", true)
  | 30 => ("HeadDeskModel", "nameTo", "[I", true)
  | 31 => ("HeadDeskModel", "kept", "[I", true)
  | 32 => ("HeadDeskModel", "keptMatch", "[I", true)
  | 33 => ("HeadDeskModel", "keptMatches", "I", false)
  | 34 => ("HeadDeskModel", "good", "I", false)
  | 35 => ("HeadDeskModel", "wordFrom", "I", false)
  | 36 => ("HeadDeskModel", "wordTo", "I", false)
  | _ => ("HeadDeskModel", "wordNumber", "I", false)
def t_Mod : Nat → FieldType := fun k => match k with
  | 0 => .int
  | 1 => .array .int
  | 2 => .int
  | 3 => .int
  | 4 => .int
  | 5 => .boolean
  | 6 => .int
  | 7 => .int
  | 8 => .int
  | 9 => .int
  | 10 => .int
  | 11 => .int
  | 12 => .int
  | 13 => .int
  | 14 => .int
  | 15 => .int
  | 16 => .boolean
  | 17 => .boolean
  | 18 => .boolean
  | 19 => .boolean
  | 20 => .array .int
  | 21 => .int
  | 22 => .int
  | 23 => .int
  | 24 => .int
  | 25 => .int
  | 26 => .boolean
  | 27 => .boolean
  | 28 => .int
  | 29 => .array .int
  | 30 => .array .int
  | 31 => .array .int
  | 32 => .array .int
  | 33 => .int
  | 34 => .int
  | 35 => .int
  | 36 => .int
  | _ => .int
theorem n_Mod : ∀ a, a < 38 → ∀ b, b < 38 → a ≠ b → (F_Mod a).2.1 ≠ (F_Mod b).2.1 := by decide +kernel
theorem k_Mod : ∀ k, k < 38 → parseFieldDescriptor (F_Mod k).2.2.1 = some (t_Mod k) := by decide +kernel
theorem a_Mod : ∀ w ∈ u_ws "HeadDeskModel" F_Mod 38, w ∈ aw := by decide +kernel
abbrev b_Desk_init : ByteArray := prog_1_method_1_code
abbrev y_Desk_init : MethodName := ⟨"HeadDesk", "<init>", "()V"⟩
abbrev w_Desk_init : List Cond := .code y_Desk_init b_Desk_init 1 none :: aw
abbrev b_Tape_init : ByteArray := prog_4_method_1_code
abbrev y_Tape_init : MethodName := ⟨"HeadDesk$Tape", "<init>", "()V"⟩
abbrev w_Tape_init : List Cond := .code y_Tape_init b_Tape_init 1 none :: aw
abbrev b_Reader_init : ByteArray := prog_3_method_1_code
abbrev y_Reader_init : MethodName := ⟨"HeadDesk$Reader", "<init>", "(LHeadDesk$Tape;)V"⟩
abbrev w_Reader_init : List Cond := .code y_Reader_init b_Reader_init 2 none :: aw
abbrev b_Head_init : ByteArray := prog_2_method_1_code
abbrev y_Head_init : MethodName := ⟨"HeadDesk$Head", "<init>", "()V"⟩
abbrev w_Head_init : List Cond := .code y_Head_init b_Head_init 1 none :: aw
abbrev b_Desk_type : ByteArray := prog_1_method_2_code
abbrev y_Desk_type : MethodName := ⟨"HeadDesk", "type", "(JI)Z"⟩
abbrev w_Desk_type : List Cond := .code y_Desk_type b_Desk_type 4 (some .boolean) :: aw
abbrev b_Tape_append : ByteArray := prog_4_method_2_code
abbrev y_Tape_append : MethodName := ⟨"HeadDesk$Tape", "append", "(JI)Z"⟩
abbrev w_Tape_append : List Cond := .code y_Tape_append b_Tape_append 5 (some .boolean) :: aw
abbrev b_Tape_byteOf : ByteArray := prog_4_method_5_code
abbrev y_Tape_byteOf : MethodName := ⟨"HeadDesk$Tape", "byteOf", "(JI)I"⟩
abbrev w_Tape_byteOf : List Cond := .code y_Tape_byteOf b_Tape_byteOf 3 (some .int) :: aw
abbrev b_Tape_mayStand : ByteArray := prog_4_method_6_code
abbrev y_Tape_mayStand : MethodName := ⟨"HeadDesk$Tape", "mayStand", "(I)Z"⟩
abbrev w_Tape_mayStand : List Cond := .code y_Tape_mayStand b_Tape_mayStand 1 (some .boolean) :: aw
abbrev b_Desk_fault : ByteArray := prog_1_method_4_code
abbrev y_Desk_fault : MethodName := ⟨"HeadDesk", "fault", "()I"⟩
abbrev w_Desk_fault : List Cond := .code y_Desk_fault b_Desk_fault 1 (some .int) :: aw
abbrev b_Desk_told : ByteArray := prog_1_method_5_code
abbrev y_Desk_told : MethodName := ⟨"HeadDesk", "told", "(I)I"⟩
abbrev w_Desk_told : List Cond := .code y_Desk_told b_Desk_told 2 (some .int) :: aw
abbrev b_Head_get : ByteArray := prog_2_method_3_code
abbrev y_Head_get : MethodName := ⟨"HeadDesk$Head", "get", "(I)I"⟩
abbrev w_Head_get : List Cond := .code y_Head_get b_Head_get 2 (some .int) :: aw
abbrev b_Desk_matches : ByteArray := prog_1_method_6_code
abbrev y_Desk_matches : MethodName := ⟨"HeadDesk", "matches", "(I)Z"⟩
abbrev w_Desk_matches : List Cond := .code y_Desk_matches b_Desk_matches 2 (some .boolean) :: aw
abbrev b_Head_coversVersion : ByteArray := prog_2_method_8_code
abbrev y_Head_coversVersion : MethodName := ⟨"HeadDesk$Head", "coversVersion", "(I)Z"⟩
abbrev w_Head_coversVersion : List Cond := .code y_Head_coversVersion b_Head_coversVersion 2 (some .boolean) :: aw
abbrev b_Head_hasVersion : ByteArray := prog_2_method_9_code
abbrev y_Head_hasVersion : MethodName := ⟨"HeadDesk$Head", "hasVersion", "(I)Z"⟩
abbrev w_Head_hasVersion : List Cond := .code y_Head_hasVersion b_Head_hasVersion 3 (some .boolean) :: aw
abbrev b_Desk_bytes : ByteArray := prog_1_method_7_code
abbrev y_Desk_bytes : MethodName := ⟨"HeadDesk", "bytes", "(II)I"⟩
abbrev w_Desk_bytes : List Cond := .code y_Desk_bytes b_Desk_bytes 6 (some .int) :: aw
abbrev b_Head_firstByte : ByteArray := prog_2_method_10_code
abbrev y_Head_firstByte : MethodName := ⟨"HeadDesk$Head", "firstByte", "(I)I"⟩
abbrev w_Head_firstByte : List Cond := .code y_Head_firstByte b_Head_firstByte 2 (some .int) :: aw
abbrev b_Head_lastByte : ByteArray := prog_2_method_11_code
abbrev y_Head_lastByte : MethodName := ⟨"HeadDesk$Head", "lastByte", "(I)I"⟩
abbrev w_Head_lastByte : List Cond := .code y_Head_lastByte b_Head_lastByte 2 (some .int) :: aw
abbrev b_Desk_read : ByteArray := prog_1_method_3_code
abbrev y_Desk_read : MethodName := ⟨"HeadDesk", "read", "(I)I"⟩
abbrev w_Desk_read : List Cond := .code y_Desk_read b_Desk_read 3 (some .int) :: aw
abbrev b_Reader_readText : ByteArray := prog_3_method_4_code
abbrev y_Reader_readText : MethodName := ⟨"HeadDesk$Reader", "readText", "(I)Z"⟩
abbrev w_Reader_readText : List Cond := .code y_Reader_readText b_Reader_readText 3 (some .boolean) :: aw
abbrev b_Head_clear : ByteArray := prog_2_method_2_code
abbrev y_Head_clear : MethodName := ⟨"HeadDesk$Head", "clear", "()V"⟩
abbrev w_Head_clear : List Cond := .code y_Head_clear b_Head_clear 1 none :: aw
abbrev b_Reader_readFirstLine : ByteArray := prog_3_method_5_code
abbrev y_Reader_readFirstLine : MethodName := ⟨"HeadDesk$Reader", "readFirstLine", "()Z"⟩
abbrev w_Reader_readFirstLine : List Cond := .code y_Reader_readFirstLine b_Reader_readFirstLine 1 (some .boolean) :: aw
abbrev b_Reader_readVerb : ByteArray := prog_3_method_6_code
abbrev y_Reader_readVerb : MethodName := ⟨"HeadDesk$Reader", "readVerb", "()Z"⟩
abbrev w_Reader_readVerb : List Cond := .code y_Reader_readVerb b_Reader_readVerb 1 (some .boolean) :: aw
abbrev b_Head_set : ByteArray := prog_2_method_4_code
abbrev y_Head_set : MethodName := ⟨"HeadDesk$Head", "set", "(II)V"⟩
abbrev w_Head_set : List Cond := .code y_Head_set b_Head_set 3 none :: aw
abbrev b_Reader_takeAll : ByteArray := prog_3_method_23_code
abbrev y_Reader_takeAll : MethodName := ⟨"HeadDesk$Reader", "takeAll", "(Ljava/lang/String;)Z"⟩
abbrev w_Reader_takeAll : List Cond := .code y_Reader_takeAll b_Reader_takeAll 3 (some .boolean) :: aw
abbrev b_String_length : ByteArray := prog_11_method_54_code
abbrev y_String_length : MethodName := ⟨"java/lang/String", "length", "()I"⟩
abbrev w_String_length : List Cond := .code y_String_length b_String_length 1 (some .int) :: aw
abbrev b_String_coder : ByteArray := prog_11_method_152_code
abbrev y_String_coder : MethodName := ⟨"java/lang/String", "coder", "()B"⟩
abbrev w_String_coder : List Cond := .code y_String_coder b_String_coder 1 (some .byte) :: aw
abbrev b_Reader_mark : ByteArray := prog_3_method_19_code
abbrev y_Reader_mark : MethodName := ⟨"HeadDesk$Reader", "mark", "()I"⟩
abbrev w_Reader_mark : List Cond := .code y_Reader_mark b_Reader_mark 1 (some .int) :: aw
abbrev b_Tape_markAt : ByteArray := prog_4_method_4_code
abbrev y_Tape_markAt : MethodName := ⟨"HeadDesk$Tape", "markAt", "(I)I"⟩
abbrev w_Tape_markAt : List Cond := .code y_Tape_markAt b_Tape_markAt 2 (some .int) :: aw
abbrev b_String_charAt : ByteArray := prog_11_method_56_code
abbrev y_String_charAt : MethodName := ⟨"java/lang/String", "charAt", "(I)C"⟩
abbrev w_String_charAt : List Cond := .code y_String_charAt b_String_charAt 2 (some .char) :: aw
abbrev b_String_isLatin1 : ByteArray := prog_11_method_154_code
abbrev y_String_isLatin1 : MethodName := ⟨"java/lang/String", "isLatin1", "()Z"⟩
abbrev w_String_isLatin1 : List Cond := .code y_String_isLatin1 b_String_isLatin1 1 (some .boolean) :: aw
abbrev b_Latin_charAt : ByteArray := prog_12_method_2_code
abbrev y_Latin_charAt : MethodName := ⟨"java/lang/StringLatin1", "charAt", "([BI)C"⟩
abbrev w_Latin_charAt : List Cond := .code y_Latin_charAt b_Latin_charAt 2 (some .char) :: aw
abbrev b_String_checkIndex : ByteArray := prog_11_method_155_code
abbrev y_String_checkIndex : MethodName := ⟨"java/lang/String", "checkIndex", "(II)V"⟩
abbrev w_String_checkIndex : List Cond := .code y_String_checkIndex b_String_checkIndex 2 none :: aw
abbrev b_Prec_checkIndex : ByteArray := prog_16_method_11_code
abbrev y_Prec_checkIndex : MethodName := ⟨"jdk/internal/util/Preconditions", "checkIndex", "(IILjava/util/function/BiFunction;)I"⟩
abbrev w_Prec_checkIndex : List Cond := .code y_Prec_checkIndex b_Prec_checkIndex 3 (some .int) :: aw
abbrev b_Reader_stop : ByteArray := prog_3_method_20_code
abbrev y_Reader_stop : MethodName := ⟨"HeadDesk$Reader", "stop", "(I)Z"⟩
abbrev w_Reader_stop : List Cond := .code y_Reader_stop b_Reader_stop 2 (some .boolean) :: aw
abbrev b_Reader_take : ByteArray := prog_3_method_22_code
abbrev y_Reader_take : MethodName := ⟨"HeadDesk$Reader", "take", "(C)Z"⟩
abbrev w_Reader_take : List Cond := .code y_Reader_take b_Reader_take 2 (some .boolean) :: aw
abbrev b_Reader_readTarget : ByteArray := prog_3_method_7_code
abbrev y_Reader_readTarget : MethodName := ⟨"HeadDesk$Reader", "readTarget", "()Z"⟩
abbrev w_Reader_readTarget : List Cond := .code y_Reader_readTarget b_Reader_readTarget 1 (some .boolean) :: aw
abbrev b_Reader_takeNumber : ByteArray := prog_3_method_24_code
abbrev y_Reader_takeNumber : MethodName := ⟨"HeadDesk$Reader", "takeNumber", "(I)Z"⟩
abbrev w_Reader_takeNumber : List Cond := .code y_Reader_takeNumber b_Reader_takeNumber 4 (some .boolean) :: aw
abbrev b_Reader_isDigit : ByteArray := prog_3_method_28_code
abbrev y_Reader_isDigit : MethodName := ⟨"HeadDesk$Reader", "isDigit", "(I)Z"⟩
abbrev w_Reader_isDigit : List Cond := .code y_Reader_isDigit b_Reader_isDigit 1 (some .boolean) :: aw
abbrev b_Reader_skip : ByteArray := prog_3_method_21_code
abbrev y_Reader_skip : MethodName := ⟨"HeadDesk$Reader", "skip", "(C)Z"⟩
abbrev w_Reader_skip : List Cond := .code y_Reader_skip b_Reader_skip 2 (some .boolean) :: aw
abbrev b_Reader_readName : ByteArray := prog_3_method_8_code
abbrev y_Reader_readName : MethodName := ⟨"HeadDesk$Reader", "readName", "()Z"⟩
abbrev w_Reader_readName : List Cond := .code y_Reader_readName b_Reader_readName 1 (some .boolean) :: aw
abbrev b_Reader_takeLetters : ByteArray := prog_3_method_25_code
abbrev y_Reader_takeLetters : MethodName := ⟨"HeadDesk$Reader", "takeLetters", "(I)Z"⟩
abbrev w_Reader_takeLetters : List Cond := .code y_Reader_takeLetters b_Reader_takeLetters 3 (some .boolean) :: aw
abbrev b_Reader_isLetter : ByteArray := prog_3_method_29_code
abbrev y_Reader_isLetter : MethodName := ⟨"HeadDesk$Reader", "isLetter", "(I)Z"⟩
abbrev w_Reader_isLetter : List Cond := .code y_Reader_isLetter b_Reader_isLetter 1 (some .boolean) :: aw
abbrev b_Reader_wasThere : ByteArray := prog_3_method_9_code
abbrev y_Reader_wasThere : MethodName := ⟨"HeadDesk$Reader", "wasThere", "()Z"⟩
abbrev w_Reader_wasThere : List Cond := .code y_Reader_wasThere b_Reader_wasThere 2 (some .boolean) :: aw
abbrev b_Reader_isWordFrom : ByteArray := prog_3_method_27_code
abbrev y_Reader_isWordFrom : MethodName := ⟨"HeadDesk$Reader", "isWordFrom", "(II)Z"⟩
abbrev w_Reader_isWordFrom : List Cond := .code y_Reader_isWordFrom b_Reader_isWordFrom 4 (some .boolean) :: aw
abbrev b_Reader_readValue : ByteArray := prog_3_method_10_code
abbrev y_Reader_readValue : MethodName := ⟨"HeadDesk$Reader", "readValue", "()Z"⟩
abbrev w_Reader_readValue : List Cond := .code y_Reader_readValue b_Reader_readValue 1 (some .boolean) :: aw
abbrev b_Reader_isWord : ByteArray := prog_3_method_26_code
abbrev y_Reader_isWord : MethodName := ⟨"HeadDesk$Reader", "isWord", "(Ljava/lang/String;)Z"⟩
abbrev w_Reader_isWord : List Cond := .code y_Reader_isWord b_Reader_isWord 3 (some .boolean) :: aw
abbrev b_Reader_readList : ByteArray := prog_3_method_16_code
abbrev y_Reader_readList : MethodName := ⟨"HeadDesk$Reader", "readList", "()Z"⟩
abbrev w_Reader_readList : List Cond := .code y_Reader_readList b_Reader_readList 2 (some .boolean) :: aw
abbrev b_Reader_countBare : ByteArray := prog_3_method_17_code
abbrev y_Reader_countBare : MethodName := ⟨"HeadDesk$Reader", "countBare", "()V"⟩
abbrev w_Reader_countBare : List Cond := .code y_Reader_countBare b_Reader_countBare 1 none :: aw
abbrev b_Reader_countWithNumber : ByteArray := prog_3_method_18_code
abbrev y_Reader_countWithNumber : MethodName := ⟨"HeadDesk$Reader", "countWithNumber", "()V"⟩
abbrev w_Reader_countWithNumber : List Cond := .code y_Reader_countWithNumber b_Reader_countWithNumber 1 none :: aw
abbrev b_Reader_readRange : ByteArray := prog_3_method_12_code
abbrev y_Reader_readRange : MethodName := ⟨"HeadDesk$Reader", "readRange", "()Z"⟩
abbrev w_Reader_readRange : List Cond := .code y_Reader_readRange b_Reader_readRange 3 (some .boolean) :: aw
abbrev b_Head_setRange : ByteArray := prog_2_method_5_code
abbrev y_Head_setRange : MethodName := ⟨"HeadDesk$Head", "setRange", "(III)V"⟩
abbrev w_Head_setRange : List Cond := .code y_Head_setRange b_Head_setRange 4 none :: aw
abbrev b_Reader_readVersions : ByteArray := prog_3_method_13_code
abbrev y_Reader_readVersions : MethodName := ⟨"HeadDesk$Reader", "readVersions", "()Z"⟩
abbrev w_Reader_readVersions : List Cond := .code y_Reader_readVersions b_Reader_readVersions 2 (some .boolean) :: aw
abbrev b_Head_addVersion : ByteArray := prog_2_method_7_code
abbrev y_Head_addVersion : MethodName := ⟨"HeadDesk$Head", "addVersion", "(I)V"⟩
abbrev w_Head_addVersion : List Cond := .code y_Head_addVersion b_Head_addVersion 3 none :: aw
abbrev b_Reader_readLength : ByteArray := prog_3_method_14_code
abbrev y_Reader_readLength : MethodName := ⟨"HeadDesk$Reader", "readLength", "()Z"⟩
abbrev w_Reader_readLength : List Cond := .code y_Reader_readLength b_Reader_readLength 1 (some .boolean) :: aw
abbrev b_Reader_readKeys : ByteArray := prog_3_method_15_code
abbrev y_Reader_readKeys : MethodName := ⟨"HeadDesk$Reader", "readKeys", "()Z"⟩
abbrev w_Reader_readKeys : List Cond := .code y_Reader_readKeys b_Reader_readKeys 3 (some .boolean) :: aw
abbrev b_Head_addKey : ByteArray := prog_2_method_6_code
abbrev y_Head_addKey : MethodName := ⟨"HeadDesk$Head", "addKey", "(I)V"⟩
abbrev w_Head_addKey : List Cond := .code y_Head_addKey b_Head_addKey 2 none :: aw
abbrev b_Reader_readAnything : ByteArray := prog_3_method_11_code
abbrev y_Reader_readAnything : MethodName := ⟨"HeadDesk$Reader", "readAnything", "()Z"⟩
abbrev w_Reader_readAnything : List Cond := .code y_Reader_readAnything b_Reader_readAnything 2 (some .boolean) :: aw
abbrev b_Tape_empty : ByteArray := prog_4_method_3_code
abbrev y_Tape_empty : MethodName := ⟨"HeadDesk$Tape", "empty", "()V"⟩
abbrev w_Tape_empty : List Cond := .code y_Tape_empty b_Tape_empty 1 none :: aw
abbrev b_Reader_stuckAt : ByteArray := prog_3_method_2_code
abbrev y_Reader_stuckAt : MethodName := ⟨"HeadDesk$Reader", "stuckAt", "()I"⟩
abbrev w_Reader_stuckAt : List Cond := .code y_Reader_stuckAt b_Reader_stuckAt 1 (some .int) :: aw
abbrev b_Reader_trade : ByteArray := prog_3_method_3_code
abbrev y_Reader_trade : MethodName := ⟨"HeadDesk$Reader", "trade", "(LHeadDesk$Head;)LHeadDesk$Head;"⟩
abbrev w_Reader_trade : List Cond := .code y_Reader_trade b_Reader_trade 3 (some (.object "HeadDesk$Head")) :: aw
abbrev b_Mod_init : ByteArray := prog_6_method_1_code
abbrev y_Mod_init : MethodName := ⟨"HeadDeskModel", "<init>", "()V"⟩
abbrev w_Mod_init : List Cond := .code y_Mod_init b_Mod_init 1 none :: aw
abbrev b_Mod_thrown : ByteArray := prog_6_method_2_code
abbrev y_Mod_thrown : MethodName := ⟨"HeadDeskModel", "thrown", "()I"⟩
abbrev w_Mod_thrown : List Cond := .code y_Mod_thrown b_Mod_thrown 1 (some .int) :: aw
abbrev b_Mod_type : ByteArray := prog_6_method_3_code
abbrev y_Mod_type : MethodName := ⟨"HeadDeskModel", "type", "(JI)Z"⟩
abbrev w_Mod_type : List Cond := .code y_Mod_type b_Mod_type 6 (some .boolean) :: aw
abbrev b_Mod_read : ByteArray := prog_6_method_26_code
abbrev y_Mod_read : MethodName := ⟨"HeadDeskModel", "read", "(I)I"⟩
abbrev w_Mod_read : List Cond := .code y_Mod_read b_Mod_read 2 (some .int) :: aw
abbrev b_Mod_readText : ByteArray := prog_6_method_23_code
abbrev y_Mod_readText : MethodName := ⟨"HeadDeskModel", "readText", "(Z)Z"⟩
abbrev w_Mod_readText : List Cond := .code y_Mod_readText b_Mod_readText 2 (some .boolean) :: aw
abbrev b_Mod_see : ByteArray := prog_6_method_4_code
abbrev y_Mod_see : MethodName := ⟨"HeadDeskModel", "see", "()I"⟩
abbrev w_Mod_see : List Cond := .code y_Mod_see b_Mod_see 1 (some .int) :: aw
abbrev b_Mod_expectWord : ByteArray := prog_6_method_7_code
abbrev y_Mod_expectWord : MethodName := ⟨"HeadDeskModel", "expectWord", "(Ljava/lang/String;)Z"⟩
abbrev w_Mod_expectWord : List Cond := .code y_Mod_expectWord b_Mod_expectWord 3 (some .boolean) :: aw
abbrev b_Mod_expect : ByteArray := prog_6_method_6_code
abbrev y_Mod_expect : MethodName := ⟨"HeadDeskModel", "expect", "(I)Z"⟩
abbrev w_Mod_expect : List Cond := .code y_Mod_expect b_Mod_expect 2 (some .boolean) :: aw
abbrev b_Mod_wrong : ByteArray := prog_6_method_5_code
abbrev y_Mod_wrong : MethodName := ⟨"HeadDeskModel", "wrong", "(I)Z"⟩
abbrev w_Mod_wrong : List Cond := .code y_Mod_wrong b_Mod_wrong 2 (some .boolean) :: aw
abbrev b_Mod_target : ByteArray := prog_6_method_11_code
abbrev y_Mod_target : MethodName := ⟨"HeadDeskModel", "target", "(Z)V"⟩
abbrev w_Mod_target : List Cond := .code y_Mod_target b_Mod_target 2 none :: aw
abbrev b_Mod_number : ByteArray := prog_6_method_10_code
abbrev y_Mod_number : MethodName := ⟨"HeadDeskModel", "number", "(I)I"⟩
abbrev w_Mod_number : List Cond := .code y_Mod_number b_Mod_number 4 (some .int) :: aw
abbrev b_Mod_isDigit : ByteArray := prog_6_method_8_code
abbrev y_Mod_isDigit : MethodName := ⟨"HeadDeskModel", "isDigit", "(I)Z"⟩
abbrev w_Mod_isDigit : List Cond := .code y_Mod_isDigit b_Mod_isDigit 1 (some .boolean) :: aw
abbrev b_Mod_line : ByteArray := prog_6_method_24_code
abbrev y_Mod_line : MethodName := ⟨"HeadDeskModel", "line", "(Z)V"⟩
abbrev w_Mod_line : List Cond := .code y_Mod_line b_Mod_line 2 none :: aw
abbrev b_Mod_name : ByteArray := prog_6_method_12_code
abbrev y_Mod_name : MethodName := ⟨"HeadDeskModel", "name", "()Z"⟩
abbrev w_Mod_name : List Cond := .code y_Mod_name b_Mod_name 3 (some .boolean) :: aw
abbrev b_Mod_isSmall : ByteArray := prog_6_method_9_code
abbrev y_Mod_isSmall : MethodName := ⟨"HeadDeskModel", "isSmall", "(I)Z"⟩
abbrev w_Mod_isSmall : List Cond := .code y_Mod_isSmall b_Mod_isSmall 1 (some .boolean) :: aw
abbrev b_Mod_isSame : ByteArray := prog_6_method_13_code
abbrev y_Mod_isSame : MethodName := ⟨"HeadDeskModel", "isSame", "(IIII)Z"⟩
abbrev w_Mod_isSame : List Cond := .code y_Mod_isSame b_Mod_isSame 7 (some .boolean) :: aw
abbrev b_Mod_isNamed : ByteArray := prog_6_method_14_code
abbrev y_Mod_isNamed : MethodName := ⟨"HeadDeskModel", "isNamed", "(Ljava/lang/String;)Z"⟩
abbrev w_Mod_isNamed : List Cond := .code y_Mod_isNamed b_Mod_isNamed 5 (some .boolean) :: aw
abbrev b_Mod_range : ByteArray := prog_6_method_16_code
abbrev y_Mod_range : MethodName := ⟨"HeadDeskModel", "range", "()V"⟩
abbrev w_Mod_range : List Cond := .code y_Mod_range b_Mod_range 1 none :: aw
abbrev b_Mod_matching : ByteArray := prog_6_method_17_code
abbrev y_Mod_matching : MethodName := ⟨"HeadDeskModel", "matching", "()V"⟩
abbrev w_Mod_matching : List Cond := .code y_Mod_matching b_Mod_matching 3 none :: aw
abbrev b_Mod_list : ByteArray := prog_6_method_18_code
abbrev y_Mod_list : MethodName := ⟨"HeadDeskModel", "list", "(Z)V"⟩
abbrev w_Mod_list : List Cond := .code y_Mod_list b_Mod_list 3 none :: aw
abbrev b_Mod_requestWord : ByteArray := prog_6_method_20_code
abbrev y_Mod_requestWord : MethodName := ⟨"HeadDeskModel", "requestWord", "()V"⟩
abbrev w_Mod_requestWord : List Cond := .code y_Mod_requestWord b_Mod_requestWord 2 none :: aw
abbrev b_Mod_isWord : ByteArray := prog_6_method_19_code
abbrev y_Mod_isWord : MethodName := ⟨"HeadDeskModel", "isWord", "(Ljava/lang/String;)Z"⟩
abbrev w_Mod_isWord : List Cond := .code y_Mod_isWord b_Mod_isWord 4 (some .boolean) :: aw
abbrev b_Mod_thingWord : ByteArray := prog_6_method_21_code
abbrev y_Mod_thingWord : MethodName := ⟨"HeadDeskModel", "thingWord", "()V"⟩
abbrev w_Mod_thingWord : List Cond := .code y_Mod_thingWord b_Mod_thingWord 2 none :: aw
abbrev b_Mod_keyLetters : ByteArray := prog_6_method_22_code
abbrev y_Mod_keyLetters : MethodName := ⟨"HeadDeskModel", "keyLetters", "()V"⟩
abbrev w_Mod_keyLetters : List Cond := .code y_Mod_keyLetters b_Mod_keyLetters 3 none :: aw
abbrev b_Mod_anyValue : ByteArray := prog_6_method_15_code
abbrev y_Mod_anyValue : MethodName := ⟨"HeadDeskModel", "anyValue", "()V"⟩
abbrev w_Mod_anyValue : List Cond := .code y_Mod_anyValue b_Mod_anyValue 1 none :: aw
abbrev b_Mod_keep : ByteArray := prog_6_method_25_code
abbrev y_Mod_keep : MethodName := ⟨"HeadDeskModel", "keep", "(Z)V"⟩
abbrev w_Mod_keep : List Cond := .code y_Mod_keep b_Mod_keep 5 none :: aw
abbrev b_Mod_fault : ByteArray := prog_6_method_27_code
abbrev y_Mod_fault : MethodName := ⟨"HeadDeskModel", "fault", "()I"⟩
abbrev w_Mod_fault : List Cond := .code y_Mod_fault b_Mod_fault 1 (some .int) :: aw
abbrev b_Mod_told : ByteArray := prog_6_method_28_code
abbrev y_Mod_told : MethodName := ⟨"HeadDeskModel", "told", "(I)I"⟩
abbrev w_Mod_told : List Cond := .code y_Mod_told b_Mod_told 2 (some .int) :: aw
abbrev b_Mod_matches : ByteArray := prog_6_method_29_code
abbrev y_Mod_matches : MethodName := ⟨"HeadDeskModel", "matches", "(I)Z"⟩
abbrev w_Mod_matches : List Cond := .code y_Mod_matches b_Mod_matches 4 (some .boolean) :: aw
abbrev b_Mod_bytes : ByteArray := prog_6_method_30_code
abbrev y_Mod_bytes : MethodName := ⟨"HeadDeskModel", "bytes", "(II)I"⟩
abbrev w_Mod_bytes : List Cond := .code y_Mod_bytes b_Mod_bytes 5 (some .int) :: aw
abbrev vwCl : List vw_C := [("HeadDesk$Head", F_Head, 2), ("HeadDesk$Reader", F_Reader, 11), ("HeadDesk$Tape", F_Tape, 2), ("HeadDesk", F_Desk, 5), ("HeadDeskModel", F_Mod, 38)]
abbrev nJS : Nat := 36
abbrev lenJS : List Nat := [12, 3, 4, 3, 13, 8, 8, 14, 9, 7, 14, 22, 9, 5, 6, 13, 6, 4, 12, 4, 3, 3, 5, 6, 13, 13, 8, 14, 7, 9, 9, 8, 14, 22, 6, 4]
abbrev bytJS : List (List Int32) := [[110, 111, 32, 115, 117, 99, 104, 32, 107, 105, 110, 100], [80, 85, 84], [72, 69, 65, 68], [71, 69, 84], [99, 97, 99, 104, 101, 45, 99, 111, 110, 116, 114, 111, 108], [110, 111, 45, 99, 97, 99, 104, 101], [110, 111, 45, 115, 116, 111, 114, 101], [111, 110, 108, 121, 45, 105, 102, 45, 99, 97, 99, 104, 101, 100], [109, 97, 120, 45, 115, 116, 97, 108, 101], [109, 97, 120, 45, 97, 103, 101], [115, 116, 97, 108, 101, 45, 105, 102, 45, 101, 114, 114, 111, 114], [115, 116, 97, 108, 101, 45, 119, 104, 105, 108, 101, 45, 114, 101, 118, 97, 108, 105, 100, 97, 116, 101], [109, 105, 110, 45, 102, 114, 101, 115, 104], [114, 97, 110, 103, 101], [98, 121, 116, 101, 115, 61], [105, 102, 45, 110, 111, 110, 101, 45, 109, 97, 116, 99, 104], [108, 101, 110, 103, 116, 104], [107, 101, 121, 115], [110, 111, 32, 115, 117, 99, 104, 32, 116, 101, 120, 116], [72, 69, 65, 68], [71, 69, 84], [80, 85, 84], [114, 97, 110, 103, 101], [98, 121, 116, 101, 115, 61], [105, 102, 45, 110, 111, 110, 101, 45, 109, 97, 116, 99, 104], [99, 97, 99, 104, 101, 45, 99, 111, 110, 116, 114, 111, 108], [110, 111, 45, 99, 97, 99, 104, 101], [111, 110, 108, 121, 45, 105, 102, 45, 99, 97, 99, 104, 101, 100], [109, 97, 120, 45, 97, 103, 101], [109, 97, 120, 45, 115, 116, 97, 108, 101], [109, 105, 110, 45, 102, 114, 101, 115, 104], [110, 111, 45, 115, 116, 111, 114, 101], [115, 116, 97, 108, 101, 45, 105, 102, 45, 101, 114, 114, 111, 114], [115, 116, 97, 108, 101, 45, 119, 104, 105, 108, 101, 45, 114, 101, 118, 97, 108, 105, 100, 97, 116, 101], [108, 101, 110, 103, 116, 104], [107, 101, 121, 115]]
/-- the literals: the class, the entry, the text, the place -/
abbrev hx_strs : List (String × Nat × String × Nat) := [("HeadDesk", 45, "no such kind", 0), ("HeadDesk$Reader", 91, "PUT", 1), ("HeadDesk$Reader", 97, "HEAD", 2), ("HeadDesk$Reader", 99, "GET", 3), ("HeadDesk$Reader", 114, "cache-control", 4), ("HeadDesk$Reader", 168, "no-cache", 5), ("HeadDesk$Reader", 170, "no-store", 6), ("HeadDesk$Reader", 172, "only-if-cached", 7), ("HeadDesk$Reader", 174, "max-stale", 8), ("HeadDesk$Reader", 176, "max-age", 9), ("HeadDesk$Reader", 178, "stale-if-error", 10), ("HeadDesk$Reader", 180, "stale-while-revalidate", 11), ("HeadDesk$Reader", 182, "min-fresh", 12), ("HeadDesk$Reader", 122, "range", 13), ("HeadDesk$Reader", 145, "bytes=", 14), ("HeadDesk$Reader", 127, "if-none-match", 15), ("HeadDesk$Reader", 132, "length", 16), ("HeadDesk$Reader", 137, "keys", 17), ("HeadDesk", 61, "no such text", 18), ("HeadDeskModel", 187, "HEAD", 19), ("HeadDeskModel", 189, "GET", 20), ("HeadDeskModel", 191, "PUT", 21), ("HeadDeskModel", 204, "range", 22), ("HeadDeskModel", 93, "bytes=", 23), ("HeadDeskModel", 211, "if-none-match", 24), ("HeadDeskModel", 216, "cache-control", 25), ("HeadDeskModel", 130, "no-cache", 26), ("HeadDeskModel", 138, "only-if-cached", 27), ("HeadDeskModel", 143, "max-age", 28), ("HeadDeskModel", 148, "max-stale", 29), ("HeadDeskModel", 153, "min-fresh", 30), ("HeadDeskModel", 158, "no-store", 31), ("HeadDeskModel", 169, "stale-if-error", 32), ("HeadDeskModel", 174, "stale-while-revalidate", 33), ("HeadDeskModel", 221, "length", 34), ("HeadDeskModel", 222, "keys", 35)]
theorem st_0 : (("HeadDesk", 45, "no such kind", 0) : String × Nat × String × Nat) ∈ hx_strs := List.mem_of_getElem? (i := 0) rfl
theorem st_1 : (("HeadDesk$Reader", 91, "PUT", 1) : String × Nat × String × Nat) ∈ hx_strs := List.mem_of_getElem? (i := 1) rfl
theorem st_2 : (("HeadDesk$Reader", 97, "HEAD", 2) : String × Nat × String × Nat) ∈ hx_strs := List.mem_of_getElem? (i := 2) rfl
theorem st_3 : (("HeadDesk$Reader", 99, "GET", 3) : String × Nat × String × Nat) ∈ hx_strs := List.mem_of_getElem? (i := 3) rfl
theorem st_4 : (("HeadDesk$Reader", 114, "cache-control", 4) : String × Nat × String × Nat) ∈ hx_strs := List.mem_of_getElem? (i := 4) rfl
theorem st_5 : (("HeadDesk$Reader", 168, "no-cache", 5) : String × Nat × String × Nat) ∈ hx_strs := List.mem_of_getElem? (i := 5) rfl
theorem st_6 : (("HeadDesk$Reader", 170, "no-store", 6) : String × Nat × String × Nat) ∈ hx_strs := List.mem_of_getElem? (i := 6) rfl
theorem st_7 : (("HeadDesk$Reader", 172, "only-if-cached", 7) : String × Nat × String × Nat) ∈ hx_strs := List.mem_of_getElem? (i := 7) rfl
theorem st_8 : (("HeadDesk$Reader", 174, "max-stale", 8) : String × Nat × String × Nat) ∈ hx_strs := List.mem_of_getElem? (i := 8) rfl
theorem st_9 : (("HeadDesk$Reader", 176, "max-age", 9) : String × Nat × String × Nat) ∈ hx_strs := List.mem_of_getElem? (i := 9) rfl
theorem st_10 : (("HeadDesk$Reader", 178, "stale-if-error", 10) : String × Nat × String × Nat) ∈ hx_strs := List.mem_of_getElem? (i := 10) rfl
theorem st_11 : (("HeadDesk$Reader", 180, "stale-while-revalidate", 11) : String × Nat × String × Nat) ∈ hx_strs := List.mem_of_getElem? (i := 11) rfl
theorem st_12 : (("HeadDesk$Reader", 182, "min-fresh", 12) : String × Nat × String × Nat) ∈ hx_strs := List.mem_of_getElem? (i := 12) rfl
theorem st_13 : (("HeadDesk$Reader", 122, "range", 13) : String × Nat × String × Nat) ∈ hx_strs := List.mem_of_getElem? (i := 13) rfl
theorem st_14 : (("HeadDesk$Reader", 145, "bytes=", 14) : String × Nat × String × Nat) ∈ hx_strs := List.mem_of_getElem? (i := 14) rfl
theorem st_15 : (("HeadDesk$Reader", 127, "if-none-match", 15) : String × Nat × String × Nat) ∈ hx_strs := List.mem_of_getElem? (i := 15) rfl
theorem st_16 : (("HeadDesk$Reader", 132, "length", 16) : String × Nat × String × Nat) ∈ hx_strs := List.mem_of_getElem? (i := 16) rfl
theorem st_17 : (("HeadDesk$Reader", 137, "keys", 17) : String × Nat × String × Nat) ∈ hx_strs := List.mem_of_getElem? (i := 17) rfl
theorem st_18 : (("HeadDesk", 61, "no such text", 18) : String × Nat × String × Nat) ∈ hx_strs := List.mem_of_getElem? (i := 18) rfl
theorem st_19 : (("HeadDeskModel", 187, "HEAD", 19) : String × Nat × String × Nat) ∈ hx_strs := List.mem_of_getElem? (i := 19) rfl
theorem st_20 : (("HeadDeskModel", 189, "GET", 20) : String × Nat × String × Nat) ∈ hx_strs := List.mem_of_getElem? (i := 20) rfl
theorem st_21 : (("HeadDeskModel", 191, "PUT", 21) : String × Nat × String × Nat) ∈ hx_strs := List.mem_of_getElem? (i := 21) rfl
theorem st_22 : (("HeadDeskModel", 204, "range", 22) : String × Nat × String × Nat) ∈ hx_strs := List.mem_of_getElem? (i := 22) rfl
theorem st_23 : (("HeadDeskModel", 93, "bytes=", 23) : String × Nat × String × Nat) ∈ hx_strs := List.mem_of_getElem? (i := 23) rfl
theorem st_24 : (("HeadDeskModel", 211, "if-none-match", 24) : String × Nat × String × Nat) ∈ hx_strs := List.mem_of_getElem? (i := 24) rfl
theorem st_25 : (("HeadDeskModel", 216, "cache-control", 25) : String × Nat × String × Nat) ∈ hx_strs := List.mem_of_getElem? (i := 25) rfl
theorem st_26 : (("HeadDeskModel", 130, "no-cache", 26) : String × Nat × String × Nat) ∈ hx_strs := List.mem_of_getElem? (i := 26) rfl
theorem st_27 : (("HeadDeskModel", 138, "only-if-cached", 27) : String × Nat × String × Nat) ∈ hx_strs := List.mem_of_getElem? (i := 27) rfl
theorem st_28 : (("HeadDeskModel", 143, "max-age", 28) : String × Nat × String × Nat) ∈ hx_strs := List.mem_of_getElem? (i := 28) rfl
theorem st_29 : (("HeadDeskModel", 148, "max-stale", 29) : String × Nat × String × Nat) ∈ hx_strs := List.mem_of_getElem? (i := 29) rfl
theorem st_30 : (("HeadDeskModel", 153, "min-fresh", 30) : String × Nat × String × Nat) ∈ hx_strs := List.mem_of_getElem? (i := 30) rfl
theorem st_31 : (("HeadDeskModel", 158, "no-store", 31) : String × Nat × String × Nat) ∈ hx_strs := List.mem_of_getElem? (i := 31) rfl
theorem st_32 : (("HeadDeskModel", 169, "stale-if-error", 32) : String × Nat × String × Nat) ∈ hx_strs := List.mem_of_getElem? (i := 32) rfl
theorem st_33 : (("HeadDeskModel", 174, "stale-while-revalidate", 33) : String × Nat × String × Nat) ∈ hx_strs := List.mem_of_getElem? (i := 33) rfl
theorem st_34 : (("HeadDeskModel", 221, "length", 34) : String × Nat × String × Nat) ∈ hx_strs := List.mem_of_getElem? (i := 34) rfl
theorem st_35 : (("HeadDeskModel", 222, "keys", 35) : String × Nat × String × Nat) ∈ hx_strs := List.mem_of_getElem? (i := 35) rfl
abbrev t_PUT : List Int32 := [80, 85, 84]
abbrev t_HEAD : List Int32 := [72, 69, 65, 68]
abbrev t_GET : List Int32 := [71, 69, 84]
abbrev t_cache_control : List Int32 := [99, 97, 99, 104, 101, 45, 99, 111, 110, 116, 114, 111, 108]
abbrev t_no_cache : List Int32 := [110, 111, 45, 99, 97, 99, 104, 101]
abbrev t_no_store : List Int32 := [110, 111, 45, 115, 116, 111, 114, 101]
abbrev t_only_if_cached : List Int32 := [111, 110, 108, 121, 45, 105, 102, 45, 99, 97, 99, 104, 101, 100]
abbrev t_max_stale : List Int32 := [109, 97, 120, 45, 115, 116, 97, 108, 101]
abbrev t_max_age : List Int32 := [109, 97, 120, 45, 97, 103, 101]
abbrev t_stale_if_error : List Int32 := [115, 116, 97, 108, 101, 45, 105, 102, 45, 101, 114, 114, 111, 114]
abbrev t_stale_while_revalidate : List Int32 := [115, 116, 97, 108, 101, 45, 119, 104, 105, 108, 101, 45, 114, 101, 118, 97, 108, 105, 100, 97, 116, 101]
abbrev t_min_fresh : List Int32 := [109, 105, 110, 45, 102, 114, 101, 115, 104]
abbrev t_range : List Int32 := [114, 97, 110, 103, 101]
abbrev t_bytes : List Int32 := [98, 121, 116, 101, 115, 61]
abbrev t_if_none_match : List Int32 := [105, 102, 45, 110, 111, 110, 101, 45, 109, 97, 116, 99, 104]
abbrev t_length : List Int32 := [108, 101, 110, 103, 116, 104]
abbrev t_keys : List Int32 := [107, 101, 121, 115]
end
section
theorem m_1 : (.fieldLink "java/lang/String" 1053 "jdk/internal/util/Preconditions" "SIOOBE_FORMATTER" "Ljava/util/function/BiFunction;" : Cond) ∈ aw := aw_2 (i := 62) rfl rfl
theorem m_2 : (.methodLink "java/lang/String" 1059 ⟨"jdk/internal/util/Preconditions", "checkIndex", "(IILjava/util/function/BiFunction;)I"⟩ : Cond) ∈ aw := aw_2 (i := 64) rfl rfl
theorem m_3 : (.code ⟨"jdk/internal/util/Preconditions", "checkIndex", "(IILjava/util/function/BiFunction;)I"⟩ prog_16_method_11_code 3 (some .int) : Cond) ∈ aw := aw_2 (i := 66) rfl rfl
theorem m_4 : (.static ⟨"jdk/internal/util/Preconditions", "checkIndex", "(IILjava/util/function/BiFunction;)I"⟩ : Cond) ∈ aw := aw_2 (i := 65) rfl rfl
theorem m_5 : (.initialized "jdk/internal/util/Preconditions" : Cond) ∈ aw := aw_1 (i := 13) rfl rfl
theorem m_6 : (.methodLink "java/lang/StringLatin1" 9 ⟨"java/lang/String", "checkIndex", "(II)V"⟩ : Cond) ∈ aw := aw_2 (i := 59) rfl rfl
theorem m_7 : (.code ⟨"java/lang/String", "checkIndex", "(II)V"⟩ prog_11_method_155_code 2 none : Cond) ∈ aw := aw_2 (i := 61) rfl rfl
theorem m_8 : (.static ⟨"java/lang/String", "checkIndex", "(II)V"⟩ : Cond) ∈ aw := aw_2 (i := 60) rfl rfl
theorem m_9 : (.initialized "java/lang/String" : Cond) ∈ aw := aw_1 (i := 11) rfl rfl
theorem m_10 : (.fieldLink "java/lang/String" 38 "java/lang/String" "COMPACT_STRINGS" "Z" : Cond) ∈ aw := aw_2 (i := 38) rfl rfl
theorem m_11 : (.fieldLink "java/lang/String" 15 "java/lang/String" "coder" "B" : Cond) ∈ aw := aw_3 (i := 230) rfl rfl
theorem m_12 : (.fieldLink "java/lang/String" 9 "java/lang/String" "value" "[B" : Cond) ∈ aw := aw_3 (i := 229) rfl rfl
theorem m_13 : (.methodLink "java/lang/String" 335 ⟨"java/lang/String", "coder", "()B"⟩ : Cond) ∈ aw := aw_2 (i := 34) rfl rfl
theorem m_14 : (.code ⟨"java/lang/String", "coder", "()B"⟩ prog_11_method_152_code 1 (some .byte) : Cond) ∈ aw := aw_2 (i := 37) rfl rfl
theorem m_15 : (.instanceMethod ⟨"java/lang/String", "coder", "()B"⟩ : Cond) ∈ aw := aw_2 (i := 35) rfl rfl
theorem m_16 : (.selects "java/lang/String" ⟨"java/lang/String", "coder", "()B"⟩ ⟨"java/lang/String", "coder", "()B"⟩ : Cond) ∈ aw := aw_2 (i := 36) rfl rfl
theorem m_17 : (.methodLink "java/lang/String" 492 ⟨"java/lang/String", "isLatin1", "()Z"⟩ : Cond) ∈ aw := aw_2 (i := 52) rfl rfl
theorem m_18 : (.code ⟨"java/lang/String", "isLatin1", "()Z"⟩ prog_11_method_154_code 1 (some .boolean) : Cond) ∈ aw := aw_2 (i := 55) rfl rfl
theorem m_19 : (.instanceMethod ⟨"java/lang/String", "isLatin1", "()Z"⟩ : Cond) ∈ aw := aw_2 (i := 53) rfl rfl
theorem m_20 : (.selects "java/lang/String" ⟨"java/lang/String", "isLatin1", "()Z"⟩ ⟨"java/lang/String", "isLatin1", "()Z"⟩ : Cond) ∈ aw := aw_2 (i := 54) rfl rfl
theorem m_21 : (.methodLink "java/lang/String" 495 ⟨"java/lang/StringLatin1", "charAt", "([BI)C"⟩ : Cond) ∈ aw := aw_2 (i := 56) rfl rfl
theorem m_22 : (.code ⟨"java/lang/StringLatin1", "charAt", "([BI)C"⟩ prog_12_method_2_code 2 (some .char) : Cond) ∈ aw := aw_2 (i := 58) rfl rfl
theorem m_23 : (.static ⟨"java/lang/StringLatin1", "charAt", "([BI)C"⟩ : Cond) ∈ aw := aw_2 (i := 57) rfl rfl
theorem m_24 : (.initialized "java/lang/StringLatin1" : Cond) ∈ aw := aw_1 (i := 12) rfl rfl
theorem m_25 : (.fieldLink "HeadDesk$Tape" 13 "HeadDesk$Tape" "length" "I" : Cond) ∈ aw := aw_1 (i := 31) rfl rfl
theorem m_26 : (.fieldLink "HeadDesk$Tape" 9 "HeadDesk$Tape" "marks" "[C" : Cond) ∈ aw := aw_1 (i := 30) rfl rfl
theorem m_27 : (.methodLink "HeadDesk$Tape" 17 ⟨"HeadDesk$Tape", "byteOf", "(JI)I"⟩ : Cond) ∈ aw := aw_1 (i := 120) rfl rfl
theorem m_28 : (.code ⟨"HeadDesk$Tape", "byteOf", "(JI)I"⟩ prog_4_method_5_code 3 (some .int) : Cond) ∈ aw := aw_1 (i := 122) rfl rfl
theorem m_29 : (.static ⟨"HeadDesk$Tape", "byteOf", "(JI)I"⟩ : Cond) ∈ aw := aw_1 (i := 121) rfl rfl
theorem m_30 : (.initialized "HeadDesk$Tape" : Cond) ∈ aw := aw_1 (i := 2) rfl rfl
theorem m_31 : (.methodLink "HeadDesk$Tape" 21 ⟨"HeadDesk$Tape", "mayStand", "(I)Z"⟩ : Cond) ∈ aw := aw_1 (i := 123) rfl rfl
theorem m_32 : (.code ⟨"HeadDesk$Tape", "mayStand", "(I)Z"⟩ prog_4_method_6_code 1 (some .boolean) : Cond) ∈ aw := aw_1 (i := 125) rfl rfl
theorem m_33 : (.static ⟨"HeadDesk$Tape", "mayStand", "(I)Z"⟩ : Cond) ∈ aw := aw_1 (i := 124) rfl rfl
theorem m_34 : (.fieldLink "HeadDesk$Head" 15 "HeadDesk$Head" "values" "[I" : Cond) ∈ aw := aw_1 (i := 52) rfl rfl
theorem m_35 : (.fieldLink "HeadDesk$Head" 18 "HeadDesk$Head" "versions" "[I" : Cond) ∈ aw := aw_1 (i := 53) rfl rfl
theorem m_36 : (.methodLink "HeadDesk$Head" 27 ⟨"HeadDesk$Head", "hasVersion", "(I)Z"⟩ : Cond) ∈ aw := aw_1 (i := 146) rfl rfl
theorem m_37 : (.code ⟨"HeadDesk$Head", "hasVersion", "(I)Z"⟩ prog_2_method_9_code 3 (some .boolean) : Cond) ∈ aw := aw_1 (i := 149) rfl rfl
theorem m_38 : (.instanceMethod ⟨"HeadDesk$Head", "hasVersion", "(I)Z"⟩ : Cond) ∈ aw := aw_1 (i := 148) rfl rfl
theorem m_39 : (.selects "HeadDesk$Head" ⟨"HeadDesk$Head", "hasVersion", "(I)Z"⟩ ⟨"HeadDesk$Head", "hasVersion", "(I)Z"⟩ : Cond) ∈ aw := aw_s (by decide +kernel)
theorem m_40 : (.initialized "HeadDesk$Head" : Cond) ∈ aw := aw_1 (i := 4) rfl rfl
theorem m_41 : (.fieldLink "HeadDesk$Head" 9 "HeadDesk$Head" "AT_FIRST" "[I" : Cond) ∈ aw := aw_1 (i := 50) rfl rfl
theorem m_42 : (.methodLink "HeadDesk$Head" 21 ⟨"java/lang/System", "arraycopy", "(Ljava/lang/Object;ILjava/lang/Object;II)V"⟩ : Cond) ∈ aw := aw_2 (i := 10) rfl rfl
theorem m_43 : (.native ⟨"java/lang/System", "arraycopy", "(Ljava/lang/Object;ILjava/lang/Object;II)V"⟩ : Cond) ∈ aw := aw_2 (i := 12) rfl rfl
theorem m_44 : (.static ⟨"java/lang/System", "arraycopy", "(Ljava/lang/Object;ILjava/lang/Object;II)V"⟩ : Cond) ∈ aw := aw_2 (i := 11) rfl rfl
theorem m_45 : (.initialized "java/lang/System" : Cond) ∈ aw := aw_1 (i := 10) rfl rfl
theorem m_46 : (.fieldLink "HeadDesk$Reader" 49 "HeadDesk$Reader" "tape" "LHeadDesk$Tape;" : Cond) ∈ aw := aw_1 (i := 60) rfl rfl
theorem m_47 : (.fieldLink "HeadDesk$Reader" 34 "HeadDesk$Reader" "place" "I" : Cond) ∈ aw := aw_1 (i := 66) rfl rfl
theorem m_48 : (.methodLink "HeadDesk$Reader" 184 ⟨"HeadDesk$Tape", "markAt", "(I)I"⟩ : Cond) ∈ aw := aw_2 (i := 44) rfl rfl
theorem m_49 : (.code ⟨"HeadDesk$Tape", "markAt", "(I)I"⟩ prog_4_method_4_code 2 (some .int) : Cond) ∈ aw := aw_2 (i := 47) rfl rfl
theorem m_50 : (.instanceMethod ⟨"HeadDesk$Tape", "markAt", "(I)I"⟩ : Cond) ∈ aw := aw_2 (i := 45) rfl rfl
theorem m_51 : (.selects "HeadDesk$Tape" ⟨"HeadDesk$Tape", "markAt", "(I)I"⟩ ⟨"HeadDesk$Tape", "markAt", "(I)I"⟩ : Cond) ∈ aw := aw_2 (i := 46) rfl rfl
theorem m_52 : (.fieldLink "HeadDesk$Reader" 37 "HeadDesk$Reader" "stuck" "I" : Cond) ∈ aw := aw_1 (i := 67) rfl rfl
theorem m_53 : (.methodLink "HeadDesk$Reader" 64 ⟨"HeadDesk$Reader", "mark", "()I"⟩ : Cond) ∈ aw := aw_2 (i := 40) rfl rfl
theorem m_54 : (.code ⟨"HeadDesk$Reader", "mark", "()I"⟩ prog_3_method_19_code 1 (some .int) : Cond) ∈ aw := aw_2 (i := 43) rfl rfl
theorem m_55 : (.instanceMethod ⟨"HeadDesk$Reader", "mark", "()I"⟩ : Cond) ∈ aw := aw_2 (i := 42) rfl rfl
theorem m_56 : (.selects "HeadDesk$Reader" ⟨"HeadDesk$Reader", "mark", "()I"⟩ ⟨"HeadDesk$Reader", "mark", "()I"⟩ : Cond) ∈ aw := aw_s (by decide +kernel)
theorem m_57 : (.initialized "HeadDesk$Reader" : Cond) ∈ aw := aw_1 (i := 3) rfl rfl
theorem m_58 : (.methodLink "HeadDesk$Reader" 68 ⟨"HeadDesk$Reader", "stop", "(I)Z"⟩ : Cond) ∈ aw := aw_2 (i := 86) rfl rfl
theorem m_59 : (.code ⟨"HeadDesk$Reader", "stop", "(I)Z"⟩ prog_3_method_20_code 2 (some .boolean) : Cond) ∈ aw := aw_2 (i := 89) rfl rfl
theorem m_60 : (.instanceMethod ⟨"HeadDesk$Reader", "stop", "(I)Z"⟩ : Cond) ∈ aw := aw_2 (i := 88) rfl rfl
theorem m_61 : (.selects "HeadDesk$Reader" ⟨"HeadDesk$Reader", "stop", "(I)Z"⟩ ⟨"HeadDesk$Reader", "stop", "(I)Z"⟩ : Cond) ∈ aw := aw_s (by decide +kernel)
theorem m_62 : (.fieldLink "HeadDesk$Reader" 40 "HeadDesk$Reader" "number" "I" : Cond) ∈ aw := aw_1 (i := 68) rfl rfl
theorem m_63 : (.methodLink "HeadDesk$Reader" 152 ⟨"HeadDesk$Reader", "isDigit", "(I)Z"⟩ : Cond) ∈ aw := aw_2 (i := 104) rfl rfl
theorem m_64 : (.code ⟨"HeadDesk$Reader", "isDigit", "(I)Z"⟩ prog_3_method_28_code 1 (some .boolean) : Cond) ∈ aw := aw_2 (i := 106) rfl rfl
theorem m_65 : (.static ⟨"HeadDesk$Reader", "isDigit", "(I)Z"⟩ : Cond) ∈ aw := aw_2 (i := 105) rfl rfl
theorem m_66 : (.fieldLink "HeadDesk$Reader" 43 "HeadDesk$Reader" "wordStart" "I" : Cond) ∈ aw := aw_1 (i := 69) rfl rfl
theorem m_67 : (.fieldLink "HeadDesk$Reader" 46 "HeadDesk$Reader" "wordEnd" "I" : Cond) ∈ aw := aw_1 (i := 70) rfl rfl
theorem m_68 : (.methodLink "HeadDesk$Reader" 196 ⟨"HeadDesk$Reader", "isLetter", "(I)Z"⟩ : Cond) ∈ aw := aw_2 (i := 119) rfl rfl
theorem m_69 : (.code ⟨"HeadDesk$Reader", "isLetter", "(I)Z"⟩ prog_3_method_29_code 1 (some .boolean) : Cond) ∈ aw := aw_2 (i := 121) rfl rfl
theorem m_70 : (.static ⟨"HeadDesk$Reader", "isLetter", "(I)Z"⟩ : Cond) ∈ aw := aw_2 (i := 120) rfl rfl
theorem m_71 : (.fieldLink "HeadDesk$Reader" 27 "HeadDesk$Reader" "names" "I" : Cond) ∈ aw := aw_1 (i := 64) rfl rfl
theorem m_72 : (.fieldLink "HeadDesk$Reader" 13 "HeadDesk$Reader" "nameStarts" "[I" : Cond) ∈ aw := aw_1 (i := 61) rfl rfl
theorem m_73 : (.fieldLink "HeadDesk$Reader" 17 "HeadDesk$Reader" "nameEnds" "[I" : Cond) ∈ aw := aw_1 (i := 62) rfl rfl
theorem m_74 : (.methodLink "HeadDesk$Reader" 110 ⟨"HeadDesk$Reader", "isWordFrom", "(II)Z"⟩ : Cond) ∈ aw := aw_2 (i := 126) rfl rfl
theorem m_75 : (.code ⟨"HeadDesk$Reader", "isWordFrom", "(II)Z"⟩ prog_3_method_27_code 4 (some .boolean) : Cond) ∈ aw := aw_2 (i := 129) rfl rfl
theorem m_76 : (.instanceMethod ⟨"HeadDesk$Reader", "isWordFrom", "(II)Z"⟩ : Cond) ∈ aw := aw_2 (i := 128) rfl rfl
theorem m_77 : (.selects "HeadDesk$Reader" ⟨"HeadDesk$Reader", "isWordFrom", "(II)Z"⟩ ⟨"HeadDesk$Reader", "isWordFrom", "(II)Z"⟩ : Cond) ∈ aw := aw_s (by decide +kernel)
theorem m_78 : (.methodLink "HeadDesk$Reader" 188 ⟨"java/lang/String", "length", "()I"⟩ : Cond) ∈ aw := aw_2 (i := 30) rfl rfl
theorem m_79 : (.code ⟨"java/lang/String", "length", "()I"⟩ prog_11_method_54_code 1 (some .int) : Cond) ∈ aw := aw_2 (i := 33) rfl rfl
theorem m_80 : (.instanceMethod ⟨"java/lang/String", "length", "()I"⟩ : Cond) ∈ aw := aw_2 (i := 31) rfl rfl
theorem m_81 : (.selects "java/lang/String" ⟨"java/lang/String", "length", "()I"⟩ ⟨"java/lang/String", "length", "()I"⟩ : Cond) ∈ aw := aw_2 (i := 32) rfl rfl
theorem m_82 : (.methodLink "HeadDesk$Reader" 192 ⟨"java/lang/String", "charAt", "(I)C"⟩ : Cond) ∈ aw := aw_2 (i := 48) rfl rfl
theorem m_83 : (.code ⟨"java/lang/String", "charAt", "(I)C"⟩ prog_11_method_56_code 2 (some .char) : Cond) ∈ aw := aw_2 (i := 51) rfl rfl
theorem m_84 : (.instanceMethod ⟨"java/lang/String", "charAt", "(I)C"⟩ : Cond) ∈ aw := aw_2 (i := 49) rfl rfl
theorem m_85 : (.selects "java/lang/String" ⟨"java/lang/String", "charAt", "(I)C"⟩ ⟨"java/lang/String", "charAt", "(I)C"⟩ : Cond) ∈ aw := aw_2 (i := 50) rfl rfl
theorem m_86 : (.methodLink "HeadDesk$Reader" 116 ⟨"HeadDesk$Reader", "isWord", "(Ljava/lang/String;)Z"⟩ : Cond) ∈ aw := aw_2 (i := 135) rfl rfl
theorem m_87 : (.code ⟨"HeadDesk$Reader", "isWord", "(Ljava/lang/String;)Z"⟩ prog_3_method_26_code 3 (some .boolean) : Cond) ∈ aw := aw_2 (i := 138) rfl rfl
theorem m_88 : (.instanceMethod ⟨"HeadDesk$Reader", "isWord", "(Ljava/lang/String;)Z"⟩ : Cond) ∈ aw := aw_2 (i := 137) rfl rfl
theorem m_89 : (.selects "HeadDesk$Reader" ⟨"HeadDesk$Reader", "isWord", "(Ljava/lang/String;)Z"⟩ ⟨"HeadDesk$Reader", "isWord", "(Ljava/lang/String;)Z"⟩ : Cond) ∈ aw := aw_s (by decide +kernel)
theorem m_90 : (.fieldLink "HeadDesk$Reader" 31 "HeadDesk$Reader" "kind" "I" : Cond) ∈ aw := aw_1 (i := 65) rfl rfl
theorem m_91 : (.fieldLink "HeadDesk$Reader" 23 "HeadDesk$Reader" "draft" "LHeadDesk$Head;" : Cond) ∈ aw := aw_1 (i := 63) rfl rfl
theorem m_92 : (.methodLink "HeadDesk$Reader" 87 ⟨"HeadDesk$Head", "set", "(II)V"⟩ : Cond) ∈ aw := aw_2 (i := 21) rfl rfl
theorem m_93 : (.code ⟨"HeadDesk$Head", "set", "(II)V"⟩ prog_2_method_4_code 3 none : Cond) ∈ aw := aw_2 (i := 24) rfl rfl
theorem m_94 : (.instanceMethod ⟨"HeadDesk$Head", "set", "(II)V"⟩ : Cond) ∈ aw := aw_2 (i := 22) rfl rfl
theorem m_95 : (.selects "HeadDesk$Head" ⟨"HeadDesk$Head", "set", "(II)V"⟩ ⟨"HeadDesk$Head", "set", "(II)V"⟩ : Cond) ∈ aw := aw_2 (i := 23) rfl rfl
theorem m_96 : (.methodLink "HeadDesk$Reader" 101 ⟨"HeadDesk$Reader", "takeNumber", "(I)Z"⟩ : Cond) ∈ aw := aw_2 (i := 100) rfl rfl
theorem m_97 : (.code ⟨"HeadDesk$Reader", "takeNumber", "(I)Z"⟩ prog_3_method_24_code 4 (some .boolean) : Cond) ∈ aw := aw_2 (i := 103) rfl rfl
theorem m_98 : (.instanceMethod ⟨"HeadDesk$Reader", "takeNumber", "(I)Z"⟩ : Cond) ∈ aw := aw_2 (i := 102) rfl rfl
theorem m_99 : (.selects "HeadDesk$Reader" ⟨"HeadDesk$Reader", "takeNumber", "(I)Z"⟩ ⟨"HeadDesk$Reader", "takeNumber", "(I)Z"⟩ : Cond) ∈ aw := aw_s (by decide +kernel)
theorem m_100 : (.methodLink "HeadDesk$Reader" 60 ⟨"HeadDesk$Reader", "skip", "(C)Z"⟩ : Cond) ∈ aw := aw_2 (i := 107) rfl rfl
theorem m_101 : (.code ⟨"HeadDesk$Reader", "skip", "(C)Z"⟩ prog_3_method_21_code 2 (some .boolean) : Cond) ∈ aw := aw_2 (i := 110) rfl rfl
theorem m_102 : (.instanceMethod ⟨"HeadDesk$Reader", "skip", "(C)Z"⟩ : Cond) ∈ aw := aw_2 (i := 109) rfl rfl
theorem m_103 : (.selects "HeadDesk$Reader" ⟨"HeadDesk$Reader", "skip", "(C)Z"⟩ ⟨"HeadDesk$Reader", "skip", "(C)Z"⟩ : Cond) ∈ aw := aw_s (by decide +kernel)
theorem m_104 : (.methodLink "HeadDesk$Reader" 93 ⟨"HeadDesk$Reader", "takeAll", "(Ljava/lang/String;)Z"⟩ : Cond) ∈ aw := aw_2 (i := 26) rfl rfl
theorem m_105 : (.code ⟨"HeadDesk$Reader", "takeAll", "(Ljava/lang/String;)Z"⟩ prog_3_method_23_code 3 (some .boolean) : Cond) ∈ aw := aw_2 (i := 29) rfl rfl
theorem m_106 : (.instanceMethod ⟨"HeadDesk$Reader", "takeAll", "(Ljava/lang/String;)Z"⟩ : Cond) ∈ aw := aw_2 (i := 28) rfl rfl
theorem m_107 : (.selects "HeadDesk$Reader" ⟨"HeadDesk$Reader", "takeAll", "(Ljava/lang/String;)Z"⟩ ⟨"HeadDesk$Reader", "takeAll", "(Ljava/lang/String;)Z"⟩ : Cond) ∈ aw := aw_s (by decide +kernel)
theorem m_108 : (.methodLink "HeadDesk$Reader" 81 ⟨"HeadDesk$Reader", "readVerb", "()Z"⟩ : Cond) ∈ aw := aw_2 (i := 17) rfl rfl
theorem m_109 : (.code ⟨"HeadDesk$Reader", "readVerb", "()Z"⟩ prog_3_method_6_code 1 (some .boolean) : Cond) ∈ aw := aw_2 (i := 20) rfl rfl
theorem m_110 : (.instanceMethod ⟨"HeadDesk$Reader", "readVerb", "()Z"⟩ : Cond) ∈ aw := aw_2 (i := 19) rfl rfl
theorem m_111 : (.selects "HeadDesk$Reader" ⟨"HeadDesk$Reader", "readVerb", "()Z"⟩ ⟨"HeadDesk$Reader", "readVerb", "()Z"⟩ : Cond) ∈ aw := aw_s (by decide +kernel)
theorem m_112 : (.methodLink "HeadDesk$Reader" 78 ⟨"HeadDesk$Reader", "take", "(C)Z"⟩ : Cond) ∈ aw := aw_2 (i := 92) rfl rfl
theorem m_113 : (.code ⟨"HeadDesk$Reader", "take", "(C)Z"⟩ prog_3_method_22_code 2 (some .boolean) : Cond) ∈ aw := aw_2 (i := 95) rfl rfl
theorem m_114 : (.instanceMethod ⟨"HeadDesk$Reader", "take", "(C)Z"⟩ : Cond) ∈ aw := aw_2 (i := 94) rfl rfl
theorem m_115 : (.selects "HeadDesk$Reader" ⟨"HeadDesk$Reader", "take", "(C)Z"⟩ ⟨"HeadDesk$Reader", "take", "(C)Z"⟩ : Cond) ∈ aw := aw_s (by decide +kernel)
theorem m_116 : (.methodLink "HeadDesk$Reader" 84 ⟨"HeadDesk$Reader", "readTarget", "()Z"⟩ : Cond) ∈ aw := aw_2 (i := 96) rfl rfl
theorem m_117 : (.code ⟨"HeadDesk$Reader", "readTarget", "()Z"⟩ prog_3_method_7_code 1 (some .boolean) : Cond) ∈ aw := aw_2 (i := 99) rfl rfl
theorem m_118 : (.instanceMethod ⟨"HeadDesk$Reader", "readTarget", "()Z"⟩ : Cond) ∈ aw := aw_2 (i := 98) rfl rfl
theorem m_119 : (.selects "HeadDesk$Reader" ⟨"HeadDesk$Reader", "readTarget", "()Z"⟩ ⟨"HeadDesk$Reader", "readTarget", "()Z"⟩ : Cond) ∈ aw := aw_s (by decide +kernel)
theorem m_120 : (.constant "HeadDesk$Reader" 147 99999 : Cond) ∈ aw := aw_2 (i := 151) rfl rfl
theorem m_121 : (.methodLink "HeadDesk$Reader" 148 ⟨"HeadDesk$Head", "setRange", "(III)V"⟩ : Cond) ∈ aw := aw_2 (i := 166) rfl rfl
theorem m_122 : (.code ⟨"HeadDesk$Head", "setRange", "(III)V"⟩ prog_2_method_5_code 4 none : Cond) ∈ aw := aw_2 (i := 169) rfl rfl
theorem m_123 : (.instanceMethod ⟨"HeadDesk$Head", "setRange", "(III)V"⟩ : Cond) ∈ aw := aw_2 (i := 167) rfl rfl
theorem m_124 : (.selects "HeadDesk$Head" ⟨"HeadDesk$Head", "setRange", "(III)V"⟩ ⟨"HeadDesk$Head", "setRange", "(III)V"⟩ : Cond) ∈ aw := aw_2 (i := 168) rfl rfl
theorem m_125 : (.methodLink "HeadDesk$Reader" 104 ⟨"HeadDesk$Reader", "takeLetters", "(I)Z"⟩ : Cond) ∈ aw := aw_2 (i := 115) rfl rfl
theorem m_126 : (.code ⟨"HeadDesk$Reader", "takeLetters", "(I)Z"⟩ prog_3_method_25_code 3 (some .boolean) : Cond) ∈ aw := aw_2 (i := 118) rfl rfl
theorem m_127 : (.instanceMethod ⟨"HeadDesk$Reader", "takeLetters", "(I)Z"⟩ : Cond) ∈ aw := aw_2 (i := 117) rfl rfl
theorem m_128 : (.selects "HeadDesk$Reader" ⟨"HeadDesk$Reader", "takeLetters", "(I)Z"⟩ ⟨"HeadDesk$Reader", "takeLetters", "(I)Z"⟩ : Cond) ∈ aw := aw_s (by decide +kernel)
theorem m_129 : (.methodLink "HeadDesk$Reader" 107 ⟨"HeadDesk$Reader", "wasThere", "()Z"⟩ : Cond) ∈ aw := aw_2 (i := 122) rfl rfl
theorem m_130 : (.code ⟨"HeadDesk$Reader", "wasThere", "()Z"⟩ prog_3_method_9_code 2 (some .boolean) : Cond) ∈ aw := aw_2 (i := 125) rfl rfl
theorem m_131 : (.instanceMethod ⟨"HeadDesk$Reader", "wasThere", "()Z"⟩ : Cond) ∈ aw := aw_2 (i := 124) rfl rfl
theorem m_132 : (.selects "HeadDesk$Reader" ⟨"HeadDesk$Reader", "wasThere", "()Z"⟩ ⟨"HeadDesk$Reader", "wasThere", "()Z"⟩ : Cond) ∈ aw := aw_s (by decide +kernel)
theorem m_133 : (.methodLink "HeadDesk$Reader" 155 ⟨"HeadDesk$Head", "addVersion", "(I)V"⟩ : Cond) ∈ aw := aw_2 (i := 175) rfl rfl
theorem m_134 : (.code ⟨"HeadDesk$Head", "addVersion", "(I)V"⟩ prog_2_method_7_code 3 none : Cond) ∈ aw := aw_2 (i := 178) rfl rfl
theorem m_135 : (.instanceMethod ⟨"HeadDesk$Head", "addVersion", "(I)V"⟩ : Cond) ∈ aw := aw_2 (i := 176) rfl rfl
theorem m_136 : (.selects "HeadDesk$Head" ⟨"HeadDesk$Head", "addVersion", "(I)V"⟩ ⟨"HeadDesk$Head", "addVersion", "(I)V"⟩ : Cond) ∈ aw := aw_2 (i := 177) rfl rfl
theorem m_137 : (.methodLink "HeadDesk$Reader" 159 ⟨"HeadDesk$Head", "addKey", "(I)V"⟩ : Cond) ∈ aw := aw_2 (i := 189) rfl rfl
theorem m_138 : (.code ⟨"HeadDesk$Head", "addKey", "(I)V"⟩ prog_2_method_6_code 2 none : Cond) ∈ aw := aw_2 (i := 192) rfl rfl
theorem m_139 : (.instanceMethod ⟨"HeadDesk$Head", "addKey", "(I)V"⟩ : Cond) ∈ aw := aw_2 (i := 190) rfl rfl
theorem m_140 : (.selects "HeadDesk$Head" ⟨"HeadDesk$Head", "addKey", "(I)V"⟩ ⟨"HeadDesk$Head", "addKey", "(I)V"⟩ : Cond) ∈ aw := aw_2 (i := 191) rfl rfl
theorem m_141 : (.methodLink "HeadDesk$Reader" 165 ⟨"HeadDesk$Reader", "countWithNumber", "()V"⟩ : Cond) ∈ aw := aw_2 (i := 152) rfl rfl
theorem m_142 : (.code ⟨"HeadDesk$Reader", "countWithNumber", "()V"⟩ prog_3_method_18_code 1 none : Cond) ∈ aw := aw_2 (i := 155) rfl rfl
theorem m_143 : (.instanceMethod ⟨"HeadDesk$Reader", "countWithNumber", "()V"⟩ : Cond) ∈ aw := aw_2 (i := 154) rfl rfl
theorem m_144 : (.selects "HeadDesk$Reader" ⟨"HeadDesk$Reader", "countWithNumber", "()V"⟩ ⟨"HeadDesk$Reader", "countWithNumber", "()V"⟩ : Cond) ∈ aw := aw_s (by decide +kernel)
theorem m_145 : (.methodLink "HeadDesk$Reader" 162 ⟨"HeadDesk$Reader", "countBare", "()V"⟩ : Cond) ∈ aw := aw_2 (i := 143) rfl rfl
theorem m_146 : (.code ⟨"HeadDesk$Reader", "countBare", "()V"⟩ prog_3_method_17_code 1 none : Cond) ∈ aw := aw_2 (i := 146) rfl rfl
theorem m_147 : (.instanceMethod ⟨"HeadDesk$Reader", "countBare", "()V"⟩ : Cond) ∈ aw := aw_2 (i := 145) rfl rfl
theorem m_148 : (.selects "HeadDesk$Reader" ⟨"HeadDesk$Reader", "countBare", "()V"⟩ ⟨"HeadDesk$Reader", "countBare", "()V"⟩ : Cond) ∈ aw := aw_s (by decide +kernel)
theorem m_149 : (.methodLink "HeadDesk$Reader" 142 ⟨"HeadDesk$Reader", "readAnything", "()Z"⟩ : Cond) ∈ aw := aw_2 (i := 193) rfl rfl
theorem m_150 : (.code ⟨"HeadDesk$Reader", "readAnything", "()Z"⟩ prog_3_method_11_code 2 (some .boolean) : Cond) ∈ aw := aw_2 (i := 196) rfl rfl
theorem m_151 : (.instanceMethod ⟨"HeadDesk$Reader", "readAnything", "()Z"⟩ : Cond) ∈ aw := aw_2 (i := 195) rfl rfl
theorem m_152 : (.selects "HeadDesk$Reader" ⟨"HeadDesk$Reader", "readAnything", "()Z"⟩ ⟨"HeadDesk$Reader", "readAnything", "()Z"⟩ : Cond) ∈ aw := aw_s (by decide +kernel)
theorem m_153 : (.methodLink "HeadDesk$Reader" 139 ⟨"HeadDesk$Reader", "readKeys", "()Z"⟩ : Cond) ∈ aw := aw_2 (i := 185) rfl rfl
theorem m_154 : (.code ⟨"HeadDesk$Reader", "readKeys", "()Z"⟩ prog_3_method_15_code 3 (some .boolean) : Cond) ∈ aw := aw_2 (i := 188) rfl rfl
theorem m_155 : (.instanceMethod ⟨"HeadDesk$Reader", "readKeys", "()Z"⟩ : Cond) ∈ aw := aw_2 (i := 187) rfl rfl
theorem m_156 : (.selects "HeadDesk$Reader" ⟨"HeadDesk$Reader", "readKeys", "()Z"⟩ ⟨"HeadDesk$Reader", "readKeys", "()Z"⟩ : Cond) ∈ aw := aw_s (by decide +kernel)
theorem m_157 : (.methodLink "HeadDesk$Reader" 134 ⟨"HeadDesk$Reader", "readLength", "()Z"⟩ : Cond) ∈ aw := aw_2 (i := 180) rfl rfl
theorem m_158 : (.code ⟨"HeadDesk$Reader", "readLength", "()Z"⟩ prog_3_method_14_code 1 (some .boolean) : Cond) ∈ aw := aw_2 (i := 183) rfl rfl
theorem m_159 : (.instanceMethod ⟨"HeadDesk$Reader", "readLength", "()Z"⟩ : Cond) ∈ aw := aw_2 (i := 182) rfl rfl
theorem m_160 : (.selects "HeadDesk$Reader" ⟨"HeadDesk$Reader", "readLength", "()Z"⟩ ⟨"HeadDesk$Reader", "readLength", "()Z"⟩ : Cond) ∈ aw := aw_s (by decide +kernel)
theorem m_161 : (.methodLink "HeadDesk$Reader" 129 ⟨"HeadDesk$Reader", "readVersions", "()Z"⟩ : Cond) ∈ aw := aw_2 (i := 171) rfl rfl
theorem m_162 : (.code ⟨"HeadDesk$Reader", "readVersions", "()Z"⟩ prog_3_method_13_code 2 (some .boolean) : Cond) ∈ aw := aw_2 (i := 174) rfl rfl
theorem m_163 : (.instanceMethod ⟨"HeadDesk$Reader", "readVersions", "()Z"⟩ : Cond) ∈ aw := aw_2 (i := 173) rfl rfl
theorem m_164 : (.selects "HeadDesk$Reader" ⟨"HeadDesk$Reader", "readVersions", "()Z"⟩ ⟨"HeadDesk$Reader", "readVersions", "()Z"⟩ : Cond) ∈ aw := aw_s (by decide +kernel)
theorem m_165 : (.methodLink "HeadDesk$Reader" 124 ⟨"HeadDesk$Reader", "readRange", "()Z"⟩ : Cond) ∈ aw := aw_2 (i := 161) rfl rfl
theorem m_166 : (.code ⟨"HeadDesk$Reader", "readRange", "()Z"⟩ prog_3_method_12_code 3 (some .boolean) : Cond) ∈ aw := aw_2 (i := 164) rfl rfl
theorem m_167 : (.instanceMethod ⟨"HeadDesk$Reader", "readRange", "()Z"⟩ : Cond) ∈ aw := aw_2 (i := 163) rfl rfl
theorem m_168 : (.selects "HeadDesk$Reader" ⟨"HeadDesk$Reader", "readRange", "()Z"⟩ ⟨"HeadDesk$Reader", "readRange", "()Z"⟩ : Cond) ∈ aw := aw_s (by decide +kernel)
theorem m_169 : (.methodLink "HeadDesk$Reader" 119 ⟨"HeadDesk$Reader", "readList", "()Z"⟩ : Cond) ∈ aw := aw_2 (i := 139) rfl rfl
theorem m_170 : (.code ⟨"HeadDesk$Reader", "readList", "()Z"⟩ prog_3_method_16_code 2 (some .boolean) : Cond) ∈ aw := aw_2 (i := 142) rfl rfl
theorem m_171 : (.instanceMethod ⟨"HeadDesk$Reader", "readList", "()Z"⟩ : Cond) ∈ aw := aw_2 (i := 141) rfl rfl
theorem m_172 : (.selects "HeadDesk$Reader" ⟨"HeadDesk$Reader", "readList", "()Z"⟩ ⟨"HeadDesk$Reader", "readList", "()Z"⟩ : Cond) ∈ aw := aw_s (by decide +kernel)
theorem m_173 : (.methodLink "HeadDesk$Reader" 53 ⟨"HeadDesk$Head", "clear", "()V"⟩ : Cond) ∈ aw := aw_2 (i := 6) rfl rfl
theorem m_174 : (.code ⟨"HeadDesk$Head", "clear", "()V"⟩ prog_2_method_2_code 1 none : Cond) ∈ aw := aw_2 (i := 9) rfl rfl
theorem m_175 : (.instanceMethod ⟨"HeadDesk$Head", "clear", "()V"⟩ : Cond) ∈ aw := aw_2 (i := 7) rfl rfl
theorem m_176 : (.selects "HeadDesk$Head" ⟨"HeadDesk$Head", "clear", "()V"⟩ ⟨"HeadDesk$Head", "clear", "()V"⟩ : Cond) ∈ aw := aw_2 (i := 8) rfl rfl
theorem m_177 : (.methodLink "HeadDesk$Reader" 56 ⟨"HeadDesk$Reader", "readFirstLine", "()Z"⟩ : Cond) ∈ aw := aw_2 (i := 13) rfl rfl
theorem m_178 : (.code ⟨"HeadDesk$Reader", "readFirstLine", "()Z"⟩ prog_3_method_5_code 1 (some .boolean) : Cond) ∈ aw := aw_2 (i := 16) rfl rfl
theorem m_179 : (.instanceMethod ⟨"HeadDesk$Reader", "readFirstLine", "()Z"⟩ : Cond) ∈ aw := aw_2 (i := 15) rfl rfl
theorem m_180 : (.selects "HeadDesk$Reader" ⟨"HeadDesk$Reader", "readFirstLine", "()Z"⟩ ⟨"HeadDesk$Reader", "readFirstLine", "()Z"⟩ : Cond) ∈ aw := aw_s (by decide +kernel)
theorem m_181 : (.methodLink "HeadDesk$Reader" 72 ⟨"HeadDesk$Reader", "readName", "()Z"⟩ : Cond) ∈ aw := aw_2 (i := 111) rfl rfl
theorem m_182 : (.code ⟨"HeadDesk$Reader", "readName", "()Z"⟩ prog_3_method_8_code 1 (some .boolean) : Cond) ∈ aw := aw_2 (i := 114) rfl rfl
theorem m_183 : (.instanceMethod ⟨"HeadDesk$Reader", "readName", "()Z"⟩ : Cond) ∈ aw := aw_2 (i := 113) rfl rfl
theorem m_184 : (.selects "HeadDesk$Reader" ⟨"HeadDesk$Reader", "readName", "()Z"⟩ ⟨"HeadDesk$Reader", "readName", "()Z"⟩ : Cond) ∈ aw := aw_s (by decide +kernel)
theorem m_185 : (.methodLink "HeadDesk$Reader" 75 ⟨"HeadDesk$Reader", "readValue", "()Z"⟩ : Cond) ∈ aw := aw_2 (i := 130) rfl rfl
theorem m_186 : (.code ⟨"HeadDesk$Reader", "readValue", "()Z"⟩ prog_3_method_10_code 1 (some .boolean) : Cond) ∈ aw := aw_2 (i := 133) rfl rfl
theorem m_187 : (.instanceMethod ⟨"HeadDesk$Reader", "readValue", "()Z"⟩ : Cond) ∈ aw := aw_2 (i := 132) rfl rfl
theorem m_188 : (.selects "HeadDesk$Reader" ⟨"HeadDesk$Reader", "readValue", "()Z"⟩ ⟨"HeadDesk$Reader", "readValue", "()Z"⟩ : Cond) ∈ aw := aw_s (by decide +kernel)
theorem m_189 : (.methodLink "HeadDesk$Head" 31 ⟨"java/lang/Math", "min", "(II)I"⟩ : Cond) ∈ aw := aw_1 (i := 158) rfl rfl
theorem m_190 : (.static ⟨"java/lang/Math", "min", "(II)I"⟩ : Cond) ∈ aw := aw_1 (i := 159) rfl rfl
theorem m_191 : (.initialized "java/lang/Math" : Cond) ∈ aw := aw_1 (i := 15) rfl rfl
theorem m_192 : (.code ⟨"java/lang/Math", "min", "(II)I"⟩ prog_9_method_69_code 2 (some .int) : Cond) ∈ aw := aw_1 (i := 160) rfl rfl
theorem m_193 : (.fieldLink "HeadDesk" 36 "HeadDesk" "latestFault" "I" : Cond) ∈ aw := aw_1 (i := 100) rfl rfl
theorem m_194 : (.fieldLink "HeadDesk" 32 "HeadDesk" "goodTexts" "I" : Cond) ∈ aw := aw_1 (i := 99) rfl rfl
theorem m_195 : (.fieldLink "HeadDesk" 28 "HeadDesk" "good" "LHeadDesk$Head;" : Cond) ∈ aw := aw_1 (i := 98) rfl rfl
theorem m_196 : (.methodLink "HeadDesk" 67 ⟨"HeadDesk$Head", "get", "(I)I"⟩ : Cond) ∈ aw := aw_1 (i := 134) rfl rfl
theorem m_197 : (.code ⟨"HeadDesk$Head", "get", "(I)I"⟩ prog_2_method_3_code 2 (some .int) : Cond) ∈ aw := aw_1 (i := 137) rfl rfl
theorem m_198 : (.instanceMethod ⟨"HeadDesk$Head", "get", "(I)I"⟩ : Cond) ∈ aw := aw_1 (i := 135) rfl rfl
theorem m_199 : (.selects "HeadDesk$Head" ⟨"HeadDesk$Head", "get", "(I)I"⟩ ⟨"HeadDesk$Head", "get", "(I)I"⟩ : Cond) ∈ aw := aw_1 (i := 136) rfl rfl
theorem m_200 : (.methodLink "HeadDesk" 71 ⟨"HeadDesk$Head", "coversVersion", "(I)Z"⟩ : Cond) ∈ aw := aw_1 (i := 142) rfl rfl
theorem m_201 : (.code ⟨"HeadDesk$Head", "coversVersion", "(I)Z"⟩ prog_2_method_8_code 2 (some .boolean) : Cond) ∈ aw := aw_1 (i := 145) rfl rfl
theorem m_202 : (.instanceMethod ⟨"HeadDesk$Head", "coversVersion", "(I)Z"⟩ : Cond) ∈ aw := aw_1 (i := 143) rfl rfl
theorem m_203 : (.selects "HeadDesk$Head" ⟨"HeadDesk$Head", "coversVersion", "(I)Z"⟩ ⟨"HeadDesk$Head", "coversVersion", "(I)Z"⟩ : Cond) ∈ aw := aw_1 (i := 144) rfl rfl
theorem m_204 : (.methodLink "HeadDesk" 74 ⟨"HeadDesk$Head", "firstByte", "(I)I"⟩ : Cond) ∈ aw := aw_1 (i := 154) rfl rfl
theorem m_205 : (.code ⟨"HeadDesk$Head", "firstByte", "(I)I"⟩ prog_2_method_10_code 2 (some .int) : Cond) ∈ aw := aw_1 (i := 157) rfl rfl
theorem m_206 : (.instanceMethod ⟨"HeadDesk$Head", "firstByte", "(I)I"⟩ : Cond) ∈ aw := aw_1 (i := 155) rfl rfl
theorem m_207 : (.selects "HeadDesk$Head" ⟨"HeadDesk$Head", "firstByte", "(I)I"⟩ ⟨"HeadDesk$Head", "firstByte", "(I)I"⟩ : Cond) ∈ aw := aw_1 (i := 156) rfl rfl
theorem m_208 : (.methodLink "HeadDesk" 77 ⟨"HeadDesk$Head", "lastByte", "(I)I"⟩ : Cond) ∈ aw := aw_1 (i := 161) rfl rfl
theorem m_209 : (.code ⟨"HeadDesk$Head", "lastByte", "(I)I"⟩ prog_2_method_11_code 2 (some .int) : Cond) ∈ aw := aw_1 (i := 164) rfl rfl
theorem m_210 : (.instanceMethod ⟨"HeadDesk$Head", "lastByte", "(I)I"⟩ : Cond) ∈ aw := aw_1 (i := 162) rfl rfl
theorem m_211 : (.selects "HeadDesk$Head" ⟨"HeadDesk$Head", "lastByte", "(I)I"⟩ ⟨"HeadDesk$Head", "lastByte", "(I)I"⟩ : Cond) ∈ aw := aw_1 (i := 163) rfl rfl
theorem m_212 : (.methodLink "HeadDesk" 80 ⟨"java/lang/Math", "max", "(II)I"⟩ : Cond) ∈ aw := aw_1 (i := 165) rfl rfl
theorem m_213 : (.static ⟨"java/lang/Math", "max", "(II)I"⟩ : Cond) ∈ aw := aw_1 (i := 166) rfl rfl
theorem m_214 : (.code ⟨"java/lang/Math", "max", "(II)I"⟩ prog_9_method_65_code 2 (some .int) : Cond) ∈ aw := aw_1 (i := 167) rfl rfl
theorem m_215 : (.fieldLink "HeadDesk" 10 "HeadDesk" "tape" "LHeadDesk$Tape;" : Cond) ∈ aw := aw_1 (i := 96) rfl rfl
theorem m_216 : (.methodLink "HeadDesk" 39 ⟨"HeadDesk$Tape", "append", "(JI)Z"⟩ : Cond) ∈ aw := aw_1 (i := 116) rfl rfl
theorem m_217 : (.code ⟨"HeadDesk$Tape", "append", "(JI)Z"⟩ prog_4_method_2_code 5 (some .boolean) : Cond) ∈ aw := aw_1 (i := 119) rfl rfl
theorem m_218 : (.instanceMethod ⟨"HeadDesk$Tape", "append", "(JI)Z"⟩ : Cond) ∈ aw := aw_1 (i := 117) rfl rfl
theorem m_219 : (.selects "HeadDesk$Tape" ⟨"HeadDesk$Tape", "append", "(JI)Z"⟩ ⟨"HeadDesk$Tape", "append", "(JI)Z"⟩ : Cond) ∈ aw := aw_1 (i := 118) rfl rfl
end
section
theorem d_Tape_init_0 : decode b_Tape_init 0 = .ok (.aload_n 0, 1) := by decide +kernel
theorem d_Tape_init_1 : decode b_Tape_init 1 = .ok (.invokespecial 1, 3) := by decide +kernel
theorem d_Tape_init_4 : decode b_Tape_init 4 = .ok (.aload_n 0, 1) := by decide +kernel
theorem d_Tape_init_5 : decode b_Tape_init 5 = .ok (.sipush 300, 3) := by decide +kernel
theorem d_Tape_init_8 : decode b_Tape_init 8 = .ok (.newarray .char, 2) := by decide +kernel
theorem d_Tape_init_10 : decode b_Tape_init 10 = .ok (.putfield 9, 3) := by decide +kernel
theorem d_Tape_init_13 : decode b_Tape_init 13 = .ok (.aload_n 0, 1) := by decide +kernel
theorem d_Tape_init_14 : decode b_Tape_init 14 = .ok (.iconst 0, 1) := by decide +kernel
theorem d_Tape_init_15 : decode b_Tape_init 15 = .ok (.putfield 13, 3) := by decide +kernel
theorem d_Tape_init_18 : decode b_Tape_init 18 = .ok (.return_, 1) := by decide +kernel
theorem d_Tape_append_0 : decode b_Tape_append 0 = .ok (.iload_n 3, 1) := by decide +kernel
theorem d_Tape_append_1 : decode b_Tape_append 1 = .ok (.iconst 1, 1) := by decide +kernel
theorem d_Tape_append_2 : decode b_Tape_append 2 = .ok (.if_icmp .lt 21, 3) := by decide +kernel
theorem d_Tape_append_5 : decode b_Tape_append 5 = .ok (.iload_n 3, 1) := by decide +kernel
theorem d_Tape_append_6 : decode b_Tape_append 6 = .ok (.bipush 8, 2) := by decide +kernel
theorem d_Tape_append_8 : decode b_Tape_append 8 = .ok (.if_icmp .gt 15, 3) := by decide +kernel
theorem d_Tape_append_11 : decode b_Tape_append 11 = .ok (.iload_n 3, 1) := by decide +kernel
theorem d_Tape_append_12 : decode b_Tape_append 12 = .ok (.sipush 300, 3) := by decide +kernel
theorem d_Tape_append_15 : decode b_Tape_append 15 = .ok (.aload_n 0, 1) := by decide +kernel
theorem d_Tape_append_16 : decode b_Tape_append 16 = .ok (.getfield 13, 3) := by decide +kernel
theorem d_Tape_append_19 : decode b_Tape_append 19 = .ok (.isub, 1) := by decide +kernel
theorem d_Tape_append_20 : decode b_Tape_append 20 = .ok (.if_icmp .le 5, 3) := by decide +kernel
theorem d_Tape_append_23 : decode b_Tape_append 23 = .ok (.iconst 0, 1) := by decide +kernel
theorem d_Tape_append_24 : decode b_Tape_append 24 = .ok (.ireturn, 1) := by decide +kernel
theorem d_Tape_append_25 : decode b_Tape_append 25 = .ok (.iconst 0, 1) := by decide +kernel
theorem d_Tape_append_26 : decode b_Tape_append 26 = .ok (.istore 4, 2) := by decide +kernel
theorem d_Tape_append_28 : decode b_Tape_append 28 = .ok (.iload 4, 2) := by decide +kernel
theorem d_Tape_append_30 : decode b_Tape_append 30 = .ok (.iload_n 3, 1) := by decide +kernel
theorem d_Tape_append_31 : decode b_Tape_append 31 = .ok (.if_icmp .ge 23, 3) := by decide +kernel
theorem d_Tape_append_34 : decode b_Tape_append 34 = .ok (.lload_n 1, 1) := by decide +kernel
theorem d_Tape_append_35 : decode b_Tape_append 35 = .ok (.iload 4, 2) := by decide +kernel
theorem d_Tape_append_37 : decode b_Tape_append 37 = .ok (.invokestatic 17, 3) := by decide +kernel
theorem d_Tape_append_40 : decode b_Tape_append 40 = .ok (.invokestatic 21, 3) := by decide +kernel
theorem d_Tape_append_43 : decode b_Tape_append 43 = .ok (.ifCond .ne 5, 3) := by decide +kernel
theorem d_Tape_append_46 : decode b_Tape_append 46 = .ok (.iconst 0, 1) := by decide +kernel
theorem d_Tape_append_47 : decode b_Tape_append 47 = .ok (.ireturn, 1) := by decide +kernel
theorem d_Tape_append_48 : decode b_Tape_append 48 = .ok (.iinc 4 1, 3) := by decide +kernel
theorem d_Tape_append_51 : decode b_Tape_append 51 = .ok (.goto (-23), 3) := by decide +kernel
theorem d_Tape_append_54 : decode b_Tape_append 54 = .ok (.iload_n 3, 1) := by decide +kernel
theorem d_Tape_append_55 : decode b_Tape_append 55 = .ok (.iconst 1, 1) := by decide +kernel
theorem d_Tape_append_56 : decode b_Tape_append 56 = .ok (.isub, 1) := by decide +kernel
theorem d_Tape_append_57 : decode b_Tape_append 57 = .ok (.istore 4, 2) := by decide +kernel
theorem d_Tape_append_59 : decode b_Tape_append 59 = .ok (.iload 4, 2) := by decide +kernel
theorem d_Tape_append_61 : decode b_Tape_append 61 = .ok (.ifCond .lt 35, 3) := by decide +kernel
theorem d_Tape_append_64 : decode b_Tape_append 64 = .ok (.aload_n 0, 1) := by decide +kernel
theorem d_Tape_append_65 : decode b_Tape_append 65 = .ok (.getfield 9, 3) := by decide +kernel
theorem d_Tape_append_68 : decode b_Tape_append 68 = .ok (.aload_n 0, 1) := by decide +kernel
theorem d_Tape_append_69 : decode b_Tape_append 69 = .ok (.getfield 13, 3) := by decide +kernel
theorem d_Tape_append_72 : decode b_Tape_append 72 = .ok (.lload_n 1, 1) := by decide +kernel
theorem d_Tape_append_73 : decode b_Tape_append 73 = .ok (.iload 4, 2) := by decide +kernel
theorem d_Tape_append_75 : decode b_Tape_append 75 = .ok (.invokestatic 17, 3) := by decide +kernel
theorem d_Tape_append_78 : decode b_Tape_append 78 = .ok (.i2c, 1) := by decide +kernel
theorem d_Tape_append_79 : decode b_Tape_append 79 = .ok (.castore, 1) := by decide +kernel
theorem d_Tape_append_80 : decode b_Tape_append 80 = .ok (.aload_n 0, 1) := by decide +kernel
theorem d_Tape_append_81 : decode b_Tape_append 81 = .ok (.dup, 1) := by decide +kernel
theorem d_Tape_append_82 : decode b_Tape_append 82 = .ok (.getfield 13, 3) := by decide +kernel
theorem d_Tape_append_85 : decode b_Tape_append 85 = .ok (.iconst 1, 1) := by decide +kernel
theorem d_Tape_append_86 : decode b_Tape_append 86 = .ok (.iadd, 1) := by decide +kernel
theorem d_Tape_append_87 : decode b_Tape_append 87 = .ok (.putfield 13, 3) := by decide +kernel
theorem d_Tape_append_90 : decode b_Tape_append 90 = .ok (.iinc 4 (-1), 3) := by decide +kernel
theorem d_Tape_append_93 : decode b_Tape_append 93 = .ok (.goto (-34), 3) := by decide +kernel
theorem d_Tape_append_96 : decode b_Tape_append 96 = .ok (.iconst 1, 1) := by decide +kernel
theorem d_Tape_append_97 : decode b_Tape_append 97 = .ok (.ireturn, 1) := by decide +kernel
theorem d_Tape_byteOf_0 : decode b_Tape_byteOf 0 = .ok (.lload_n 0, 1) := by decide +kernel
theorem d_Tape_byteOf_1 : decode b_Tape_byteOf 1 = .ok (.bipush 8, 2) := by decide +kernel
theorem d_Tape_byteOf_3 : decode b_Tape_byteOf 3 = .ok (.iload_n 2, 1) := by decide +kernel
theorem d_Tape_byteOf_4 : decode b_Tape_byteOf 4 = .ok (.imul, 1) := by decide +kernel
theorem d_Tape_byteOf_5 : decode b_Tape_byteOf 5 = .ok (.lushr, 1) := by decide +kernel
theorem d_Tape_byteOf_6 : decode b_Tape_byteOf 6 = .ok (.l2i, 1) := by decide +kernel
theorem d_Tape_byteOf_7 : decode b_Tape_byteOf 7 = .ok (.sipush 255, 3) := by decide +kernel
theorem d_Tape_byteOf_10 : decode b_Tape_byteOf 10 = .ok (.iand, 1) := by decide +kernel
theorem d_Tape_byteOf_11 : decode b_Tape_byteOf 11 = .ok (.ireturn, 1) := by decide +kernel
theorem d_Tape_mayStand_0 : decode b_Tape_mayStand 0 = .ok (.iload_n 0, 1) := by decide +kernel
theorem d_Tape_mayStand_1 : decode b_Tape_mayStand 1 = .ok (.bipush 10, 2) := by decide +kernel
theorem d_Tape_mayStand_3 : decode b_Tape_mayStand 3 = .ok (.if_icmp .eq 15, 3) := by decide +kernel
theorem d_Tape_mayStand_6 : decode b_Tape_mayStand 6 = .ok (.iload_n 0, 1) := by decide +kernel
theorem d_Tape_mayStand_7 : decode b_Tape_mayStand 7 = .ok (.bipush 32, 2) := by decide +kernel
theorem d_Tape_mayStand_9 : decode b_Tape_mayStand 9 = .ok (.if_icmp .lt 13, 3) := by decide +kernel
theorem d_Tape_mayStand_12 : decode b_Tape_mayStand 12 = .ok (.iload_n 0, 1) := by decide +kernel
theorem d_Tape_mayStand_13 : decode b_Tape_mayStand 13 = .ok (.bipush 126, 2) := by decide +kernel
theorem d_Tape_mayStand_15 : decode b_Tape_mayStand 15 = .ok (.if_icmp .gt 7, 3) := by decide +kernel
theorem d_Tape_mayStand_18 : decode b_Tape_mayStand 18 = .ok (.iconst 1, 1) := by decide +kernel
theorem d_Tape_mayStand_19 : decode b_Tape_mayStand 19 = .ok (.goto 4, 3) := by decide +kernel
theorem d_Tape_mayStand_22 : decode b_Tape_mayStand 22 = .ok (.iconst 0, 1) := by decide +kernel
theorem d_Tape_mayStand_23 : decode b_Tape_mayStand 23 = .ok (.ireturn, 1) := by decide +kernel
theorem d_Tape_markAt_0 : decode b_Tape_markAt 0 = .ok (.iload_n 1, 1) := by decide +kernel
theorem d_Tape_markAt_1 : decode b_Tape_markAt 1 = .ok (.ifCond .lt 20, 3) := by decide +kernel
theorem d_Tape_markAt_4 : decode b_Tape_markAt 4 = .ok (.iload_n 1, 1) := by decide +kernel
theorem d_Tape_markAt_5 : decode b_Tape_markAt 5 = .ok (.aload_n 0, 1) := by decide +kernel
theorem d_Tape_markAt_6 : decode b_Tape_markAt 6 = .ok (.getfield 13, 3) := by decide +kernel
theorem d_Tape_markAt_9 : decode b_Tape_markAt 9 = .ok (.if_icmp .ge 12, 3) := by decide +kernel
theorem d_Tape_markAt_12 : decode b_Tape_markAt 12 = .ok (.aload_n 0, 1) := by decide +kernel
theorem d_Tape_markAt_13 : decode b_Tape_markAt 13 = .ok (.getfield 9, 3) := by decide +kernel
theorem d_Tape_markAt_16 : decode b_Tape_markAt 16 = .ok (.iload_n 1, 1) := by decide +kernel
theorem d_Tape_markAt_17 : decode b_Tape_markAt 17 = .ok (.caload, 1) := by decide +kernel
theorem d_Tape_markAt_18 : decode b_Tape_markAt 18 = .ok (.goto 4, 3) := by decide +kernel
theorem d_Tape_markAt_21 : decode b_Tape_markAt 21 = .ok (.iconst (-1), 1) := by decide +kernel
theorem d_Tape_markAt_22 : decode b_Tape_markAt 22 = .ok (.ireturn, 1) := by decide +kernel
theorem d_Tape_empty_0 : decode b_Tape_empty 0 = .ok (.aload_n 0, 1) := by decide +kernel
theorem d_Tape_empty_1 : decode b_Tape_empty 1 = .ok (.iconst 0, 1) := by decide +kernel
theorem d_Tape_empty_2 : decode b_Tape_empty 2 = .ok (.putfield 13, 3) := by decide +kernel
theorem d_Tape_empty_5 : decode b_Tape_empty 5 = .ok (.return_, 1) := by decide +kernel
end
section
theorem d_Head_init_0 : decode b_Head_init 0 = .ok (.aload_n 0, 1) := by decide +kernel
theorem d_Head_init_1 : decode b_Head_init 1 = .ok (.invokespecial 3, 3) := by decide +kernel
theorem d_Head_init_4 : decode b_Head_init 4 = .ok (.aload_n 0, 1) := by decide +kernel
theorem d_Head_init_5 : decode b_Head_init 5 = .ok (.getstatic 9, 3) := by decide +kernel
theorem d_Head_init_8 : decode b_Head_init 8 = .ok (.arraylength, 1) := by decide +kernel
theorem d_Head_init_9 : decode b_Head_init 9 = .ok (.newarray .int, 2) := by decide +kernel
theorem d_Head_init_11 : decode b_Head_init 11 = .ok (.putfield 15, 3) := by decide +kernel
theorem d_Head_init_14 : decode b_Head_init 14 = .ok (.aload_n 0, 1) := by decide +kernel
theorem d_Head_init_15 : decode b_Head_init 15 = .ok (.bipush 8, 2) := by decide +kernel
theorem d_Head_init_17 : decode b_Head_init 17 = .ok (.newarray .int, 2) := by decide +kernel
theorem d_Head_init_19 : decode b_Head_init 19 = .ok (.putfield 18, 3) := by decide +kernel
theorem d_Head_init_22 : decode b_Head_init 22 = .ok (.return_, 1) := by decide +kernel
theorem d_Head_get_0 : decode b_Head_get 0 = .ok (.iload_n 1, 1) := by decide +kernel
theorem d_Head_get_1 : decode b_Head_get 1 = .ok (.ifCond .lt 21, 3) := by decide +kernel
theorem d_Head_get_4 : decode b_Head_get 4 = .ok (.iload_n 1, 1) := by decide +kernel
theorem d_Head_get_5 : decode b_Head_get 5 = .ok (.aload_n 0, 1) := by decide +kernel
theorem d_Head_get_6 : decode b_Head_get 6 = .ok (.getfield 15, 3) := by decide +kernel
theorem d_Head_get_9 : decode b_Head_get 9 = .ok (.arraylength, 1) := by decide +kernel
theorem d_Head_get_10 : decode b_Head_get 10 = .ok (.if_icmp .ge 12, 3) := by decide +kernel
theorem d_Head_get_13 : decode b_Head_get 13 = .ok (.aload_n 0, 1) := by decide +kernel
theorem d_Head_get_14 : decode b_Head_get 14 = .ok (.getfield 15, 3) := by decide +kernel
theorem d_Head_get_17 : decode b_Head_get 17 = .ok (.iload_n 1, 1) := by decide +kernel
theorem d_Head_get_18 : decode b_Head_get 18 = .ok (.iaload, 1) := by decide +kernel
theorem d_Head_get_19 : decode b_Head_get 19 = .ok (.goto 4, 3) := by decide +kernel
theorem d_Head_get_22 : decode b_Head_get 22 = .ok (.iconst (-1), 1) := by decide +kernel
theorem d_Head_get_23 : decode b_Head_get 23 = .ok (.ireturn, 1) := by decide +kernel
theorem d_Head_coversVersion_0 : decode b_Head_coversVersion 0 = .ok (.aload_n 0, 1) := by decide +kernel
theorem d_Head_coversVersion_1 : decode b_Head_coversVersion 1 = .ok (.getfield 15, 3) := by decide +kernel
theorem d_Head_coversVersion_4 : decode b_Head_coversVersion 4 = .ok (.bipush 6, 2) := by decide +kernel
theorem d_Head_coversVersion_6 : decode b_Head_coversVersion 6 = .ok (.iaload, 1) := by decide +kernel
theorem d_Head_coversVersion_7 : decode b_Head_coversVersion 7 = .ok (.iconst 1, 1) := by decide +kernel
theorem d_Head_coversVersion_8 : decode b_Head_coversVersion 8 = .ok (.if_icmp .eq 11, 3) := by decide +kernel
theorem d_Head_coversVersion_11 : decode b_Head_coversVersion 11 = .ok (.aload_n 0, 1) := by decide +kernel
theorem d_Head_coversVersion_12 : decode b_Head_coversVersion 12 = .ok (.iload_n 1, 1) := by decide +kernel
theorem d_Head_coversVersion_13 : decode b_Head_coversVersion 13 = .ok (.invokevirtual 27, 3) := by decide +kernel
theorem d_Head_coversVersion_16 : decode b_Head_coversVersion 16 = .ok (.ifCond .eq 7, 3) := by decide +kernel
theorem d_Head_coversVersion_19 : decode b_Head_coversVersion 19 = .ok (.iconst 1, 1) := by decide +kernel
theorem d_Head_coversVersion_20 : decode b_Head_coversVersion 20 = .ok (.goto 4, 3) := by decide +kernel
theorem d_Head_coversVersion_23 : decode b_Head_coversVersion 23 = .ok (.iconst 0, 1) := by decide +kernel
theorem d_Head_coversVersion_24 : decode b_Head_coversVersion 24 = .ok (.ireturn, 1) := by decide +kernel
theorem d_Head_hasVersion_0 : decode b_Head_hasVersion 0 = .ok (.iconst 0, 1) := by decide +kernel
theorem d_Head_hasVersion_1 : decode b_Head_hasVersion 1 = .ok (.istore_n 2, 1) := by decide +kernel
theorem d_Head_hasVersion_2 : decode b_Head_hasVersion 2 = .ok (.iload_n 2, 1) := by decide +kernel
theorem d_Head_hasVersion_3 : decode b_Head_hasVersion 3 = .ok (.aload_n 0, 1) := by decide +kernel
theorem d_Head_hasVersion_4 : decode b_Head_hasVersion 4 = .ok (.getfield 18, 3) := by decide +kernel
theorem d_Head_hasVersion_7 : decode b_Head_hasVersion 7 = .ok (.arraylength, 1) := by decide +kernel
theorem d_Head_hasVersion_8 : decode b_Head_hasVersion 8 = .ok (.if_icmp .ge 32, 3) := by decide +kernel
theorem d_Head_hasVersion_11 : decode b_Head_hasVersion 11 = .ok (.iload_n 2, 1) := by decide +kernel
theorem d_Head_hasVersion_12 : decode b_Head_hasVersion 12 = .ok (.aload_n 0, 1) := by decide +kernel
theorem d_Head_hasVersion_13 : decode b_Head_hasVersion 13 = .ok (.getfield 15, 3) := by decide +kernel
theorem d_Head_hasVersion_16 : decode b_Head_hasVersion 16 = .ok (.bipush 7, 2) := by decide +kernel
theorem d_Head_hasVersion_18 : decode b_Head_hasVersion 18 = .ok (.iaload, 1) := by decide +kernel
theorem d_Head_hasVersion_19 : decode b_Head_hasVersion 19 = .ok (.if_icmp .ge 21, 3) := by decide +kernel
theorem d_Head_hasVersion_22 : decode b_Head_hasVersion 22 = .ok (.aload_n 0, 1) := by decide +kernel
theorem d_Head_hasVersion_23 : decode b_Head_hasVersion 23 = .ok (.getfield 18, 3) := by decide +kernel
theorem d_Head_hasVersion_26 : decode b_Head_hasVersion 26 = .ok (.iload_n 2, 1) := by decide +kernel
theorem d_Head_hasVersion_27 : decode b_Head_hasVersion 27 = .ok (.iaload, 1) := by decide +kernel
theorem d_Head_hasVersion_28 : decode b_Head_hasVersion 28 = .ok (.iload_n 1, 1) := by decide +kernel
theorem d_Head_hasVersion_29 : decode b_Head_hasVersion 29 = .ok (.if_icmp .ne 5, 3) := by decide +kernel
theorem d_Head_hasVersion_32 : decode b_Head_hasVersion 32 = .ok (.iconst 1, 1) := by decide +kernel
theorem d_Head_hasVersion_33 : decode b_Head_hasVersion 33 = .ok (.ireturn, 1) := by decide +kernel
theorem d_Head_hasVersion_34 : decode b_Head_hasVersion 34 = .ok (.iinc 2 1, 3) := by decide +kernel
theorem d_Head_hasVersion_37 : decode b_Head_hasVersion 37 = .ok (.goto (-35), 3) := by decide +kernel
theorem d_Head_hasVersion_40 : decode b_Head_hasVersion 40 = .ok (.iconst 0, 1) := by decide +kernel
theorem d_Head_hasVersion_41 : decode b_Head_hasVersion 41 = .ok (.ireturn, 1) := by decide +kernel
theorem d_Head_firstByte_0 : decode b_Head_firstByte 0 = .ok (.aload_n 0, 1) := by decide +kernel
theorem d_Head_firstByte_1 : decode b_Head_firstByte 1 = .ok (.getfield 15, 3) := by decide +kernel
theorem d_Head_firstByte_4 : decode b_Head_firstByte 4 = .ok (.iconst 3, 1) := by decide +kernel
theorem d_Head_firstByte_5 : decode b_Head_firstByte 5 = .ok (.iaload, 1) := by decide +kernel
theorem d_Head_firstByte_6 : decode b_Head_firstByte 6 = .ok (.tableswitch 46 1 3 #[26, 26, 33], 26) := by decide +kernel
theorem d_Head_firstByte_32 : decode b_Head_firstByte 32 = .ok (.aload_n 0, 1) := by decide +kernel
theorem d_Head_firstByte_33 : decode b_Head_firstByte 33 = .ok (.getfield 15, 3) := by decide +kernel
theorem d_Head_firstByte_36 : decode b_Head_firstByte 36 = .ok (.iconst 4, 1) := by decide +kernel
theorem d_Head_firstByte_37 : decode b_Head_firstByte 37 = .ok (.iaload, 1) := by decide +kernel
theorem d_Head_firstByte_38 : decode b_Head_firstByte 38 = .ok (.ireturn, 1) := by decide +kernel
theorem d_Head_firstByte_39 : decode b_Head_firstByte 39 = .ok (.iload_n 1, 1) := by decide +kernel
theorem d_Head_firstByte_40 : decode b_Head_firstByte 40 = .ok (.aload_n 0, 1) := by decide +kernel
theorem d_Head_firstByte_41 : decode b_Head_firstByte 41 = .ok (.getfield 15, 3) := by decide +kernel
theorem d_Head_firstByte_44 : decode b_Head_firstByte 44 = .ok (.iconst 4, 1) := by decide +kernel
theorem d_Head_firstByte_45 : decode b_Head_firstByte 45 = .ok (.iaload, 1) := by decide +kernel
theorem d_Head_firstByte_46 : decode b_Head_firstByte 46 = .ok (.iload_n 1, 1) := by decide +kernel
theorem d_Head_firstByte_47 : decode b_Head_firstByte 47 = .ok (.invokestatic 31, 3) := by decide +kernel
theorem d_Head_firstByte_50 : decode b_Head_firstByte 50 = .ok (.isub, 1) := by decide +kernel
theorem d_Head_firstByte_51 : decode b_Head_firstByte 51 = .ok (.ireturn, 1) := by decide +kernel
theorem d_Head_firstByte_52 : decode b_Head_firstByte 52 = .ok (.iconst 0, 1) := by decide +kernel
theorem d_Head_firstByte_53 : decode b_Head_firstByte 53 = .ok (.ireturn, 1) := by decide +kernel
theorem d_Head_lastByte_0 : decode b_Head_lastByte 0 = .ok (.aload_n 0, 1) := by decide +kernel
theorem d_Head_lastByte_1 : decode b_Head_lastByte 1 = .ok (.getfield 15, 3) := by decide +kernel
theorem d_Head_lastByte_4 : decode b_Head_lastByte 4 = .ok (.iconst 3, 1) := by decide +kernel
theorem d_Head_lastByte_5 : decode b_Head_lastByte 5 = .ok (.iaload, 1) := by decide +kernel
theorem d_Head_lastByte_6 : decode b_Head_lastByte 6 = .ok (.iconst 1, 1) := by decide +kernel
theorem d_Head_lastByte_7 : decode b_Head_lastByte 7 = .ok (.if_icmp .ne 18, 3) := by decide +kernel
theorem d_Head_lastByte_10 : decode b_Head_lastByte 10 = .ok (.aload_n 0, 1) := by decide +kernel
theorem d_Head_lastByte_11 : decode b_Head_lastByte 11 = .ok (.getfield 15, 3) := by decide +kernel
theorem d_Head_lastByte_14 : decode b_Head_lastByte 14 = .ok (.iconst 5, 1) := by decide +kernel
theorem d_Head_lastByte_15 : decode b_Head_lastByte 15 = .ok (.iaload, 1) := by decide +kernel
theorem d_Head_lastByte_16 : decode b_Head_lastByte 16 = .ok (.iload_n 1, 1) := by decide +kernel
theorem d_Head_lastByte_17 : decode b_Head_lastByte 17 = .ok (.iconst 1, 1) := by decide +kernel
theorem d_Head_lastByte_18 : decode b_Head_lastByte 18 = .ok (.isub, 1) := by decide +kernel
theorem d_Head_lastByte_19 : decode b_Head_lastByte 19 = .ok (.invokestatic 31, 3) := by decide +kernel
theorem d_Head_lastByte_22 : decode b_Head_lastByte 22 = .ok (.goto 6, 3) := by decide +kernel
theorem d_Head_lastByte_25 : decode b_Head_lastByte 25 = .ok (.iload_n 1, 1) := by decide +kernel
theorem d_Head_lastByte_26 : decode b_Head_lastByte 26 = .ok (.iconst 1, 1) := by decide +kernel
theorem d_Head_lastByte_27 : decode b_Head_lastByte 27 = .ok (.isub, 1) := by decide +kernel
theorem d_Head_lastByte_28 : decode b_Head_lastByte 28 = .ok (.ireturn, 1) := by decide +kernel
theorem d_Head_clear_0 : decode b_Head_clear 0 = .ok (.getstatic 9, 3) := by decide +kernel
theorem d_Head_clear_3 : decode b_Head_clear 3 = .ok (.iconst 0, 1) := by decide +kernel
theorem d_Head_clear_4 : decode b_Head_clear 4 = .ok (.aload_n 0, 1) := by decide +kernel
theorem d_Head_clear_5 : decode b_Head_clear 5 = .ok (.getfield 15, 3) := by decide +kernel
theorem d_Head_clear_8 : decode b_Head_clear 8 = .ok (.iconst 0, 1) := by decide +kernel
theorem d_Head_clear_9 : decode b_Head_clear 9 = .ok (.getstatic 9, 3) := by decide +kernel
theorem d_Head_clear_12 : decode b_Head_clear 12 = .ok (.arraylength, 1) := by decide +kernel
theorem d_Head_clear_13 : decode b_Head_clear 13 = .ok (.invokestatic 21, 3) := by decide +kernel
theorem d_Head_clear_16 : decode b_Head_clear 16 = .ok (.return_, 1) := by decide +kernel
theorem d_Head_set_0 : decode b_Head_set 0 = .ok (.iload_n 1, 1) := by decide +kernel
theorem d_Head_set_1 : decode b_Head_set 1 = .ok (.ifCond .lt 19, 3) := by decide +kernel
theorem d_Head_set_4 : decode b_Head_set 4 = .ok (.iload_n 1, 1) := by decide +kernel
theorem d_Head_set_5 : decode b_Head_set 5 = .ok (.aload_n 0, 1) := by decide +kernel
theorem d_Head_set_6 : decode b_Head_set 6 = .ok (.getfield 15, 3) := by decide +kernel
theorem d_Head_set_9 : decode b_Head_set 9 = .ok (.arraylength, 1) := by decide +kernel
theorem d_Head_set_10 : decode b_Head_set 10 = .ok (.if_icmp .ge 10, 3) := by decide +kernel
theorem d_Head_set_13 : decode b_Head_set 13 = .ok (.aload_n 0, 1) := by decide +kernel
theorem d_Head_set_14 : decode b_Head_set 14 = .ok (.getfield 15, 3) := by decide +kernel
theorem d_Head_set_17 : decode b_Head_set 17 = .ok (.iload_n 1, 1) := by decide +kernel
theorem d_Head_set_18 : decode b_Head_set 18 = .ok (.iload_n 2, 1) := by decide +kernel
theorem d_Head_set_19 : decode b_Head_set 19 = .ok (.iastore, 1) := by decide +kernel
theorem d_Head_set_20 : decode b_Head_set 20 = .ok (.return_, 1) := by decide +kernel
theorem d_Head_setRange_0 : decode b_Head_setRange 0 = .ok (.aload_n 0, 1) := by decide +kernel
theorem d_Head_setRange_1 : decode b_Head_setRange 1 = .ok (.getfield 15, 3) := by decide +kernel
theorem d_Head_setRange_4 : decode b_Head_setRange 4 = .ok (.iconst 3, 1) := by decide +kernel
theorem d_Head_setRange_5 : decode b_Head_setRange 5 = .ok (.iload_n 1, 1) := by decide +kernel
theorem d_Head_setRange_6 : decode b_Head_setRange 6 = .ok (.iastore, 1) := by decide +kernel
theorem d_Head_setRange_7 : decode b_Head_setRange 7 = .ok (.aload_n 0, 1) := by decide +kernel
theorem d_Head_setRange_8 : decode b_Head_setRange 8 = .ok (.getfield 15, 3) := by decide +kernel
theorem d_Head_setRange_11 : decode b_Head_setRange 11 = .ok (.iconst 4, 1) := by decide +kernel
theorem d_Head_setRange_12 : decode b_Head_setRange 12 = .ok (.iload_n 2, 1) := by decide +kernel
theorem d_Head_setRange_13 : decode b_Head_setRange 13 = .ok (.iastore, 1) := by decide +kernel
theorem d_Head_setRange_14 : decode b_Head_setRange 14 = .ok (.aload_n 0, 1) := by decide +kernel
theorem d_Head_setRange_15 : decode b_Head_setRange 15 = .ok (.getfield 15, 3) := by decide +kernel
theorem d_Head_setRange_18 : decode b_Head_setRange 18 = .ok (.iconst 5, 1) := by decide +kernel
theorem d_Head_setRange_19 : decode b_Head_setRange 19 = .ok (.iload_n 3, 1) := by decide +kernel
theorem d_Head_setRange_20 : decode b_Head_setRange 20 = .ok (.iastore, 1) := by decide +kernel
theorem d_Head_setRange_21 : decode b_Head_setRange 21 = .ok (.return_, 1) := by decide +kernel
theorem d_Head_addVersion_0 : decode b_Head_addVersion 0 = .ok (.aload_n 0, 1) := by decide +kernel
theorem d_Head_addVersion_1 : decode b_Head_addVersion 1 = .ok (.getfield 15, 3) := by decide +kernel
theorem d_Head_addVersion_4 : decode b_Head_addVersion 4 = .ok (.bipush 7, 2) := by decide +kernel
theorem d_Head_addVersion_6 : decode b_Head_addVersion 6 = .ok (.iaload, 1) := by decide +kernel
theorem d_Head_addVersion_7 : decode b_Head_addVersion 7 = .ok (.istore_n 2, 1) := by decide +kernel
theorem d_Head_addVersion_8 : decode b_Head_addVersion 8 = .ok (.aload_n 0, 1) := by decide +kernel
theorem d_Head_addVersion_9 : decode b_Head_addVersion 9 = .ok (.iload_n 1, 1) := by decide +kernel
theorem d_Head_addVersion_10 : decode b_Head_addVersion 10 = .ok (.invokevirtual 27, 3) := by decide +kernel
theorem d_Head_addVersion_13 : decode b_Head_addVersion 13 = .ok (.ifCond .ne 33, 3) := by decide +kernel
theorem d_Head_addVersion_16 : decode b_Head_addVersion 16 = .ok (.iload_n 2, 1) := by decide +kernel
theorem d_Head_addVersion_17 : decode b_Head_addVersion 17 = .ok (.ifCond .lt 29, 3) := by decide +kernel
theorem d_Head_addVersion_20 : decode b_Head_addVersion 20 = .ok (.iload_n 2, 1) := by decide +kernel
theorem d_Head_addVersion_21 : decode b_Head_addVersion 21 = .ok (.aload_n 0, 1) := by decide +kernel
theorem d_Head_addVersion_22 : decode b_Head_addVersion 22 = .ok (.getfield 18, 3) := by decide +kernel
theorem d_Head_addVersion_25 : decode b_Head_addVersion 25 = .ok (.arraylength, 1) := by decide +kernel
theorem d_Head_addVersion_26 : decode b_Head_addVersion 26 = .ok (.if_icmp .ge 20, 3) := by decide +kernel
theorem d_Head_addVersion_29 : decode b_Head_addVersion 29 = .ok (.aload_n 0, 1) := by decide +kernel
theorem d_Head_addVersion_30 : decode b_Head_addVersion 30 = .ok (.getfield 18, 3) := by decide +kernel
theorem d_Head_addVersion_33 : decode b_Head_addVersion 33 = .ok (.iload_n 2, 1) := by decide +kernel
theorem d_Head_addVersion_34 : decode b_Head_addVersion 34 = .ok (.iload_n 1, 1) := by decide +kernel
theorem d_Head_addVersion_35 : decode b_Head_addVersion 35 = .ok (.iastore, 1) := by decide +kernel
theorem d_Head_addVersion_36 : decode b_Head_addVersion 36 = .ok (.aload_n 0, 1) := by decide +kernel
theorem d_Head_addVersion_37 : decode b_Head_addVersion 37 = .ok (.getfield 15, 3) := by decide +kernel
theorem d_Head_addVersion_40 : decode b_Head_addVersion 40 = .ok (.bipush 7, 2) := by decide +kernel
theorem d_Head_addVersion_42 : decode b_Head_addVersion 42 = .ok (.iload_n 2, 1) := by decide +kernel
theorem d_Head_addVersion_43 : decode b_Head_addVersion 43 = .ok (.iconst 1, 1) := by decide +kernel
theorem d_Head_addVersion_44 : decode b_Head_addVersion 44 = .ok (.iadd, 1) := by decide +kernel
theorem d_Head_addVersion_45 : decode b_Head_addVersion 45 = .ok (.iastore, 1) := by decide +kernel
theorem d_Head_addVersion_46 : decode b_Head_addVersion 46 = .ok (.return_, 1) := by decide +kernel
theorem d_Head_addKey_0 : decode b_Head_addKey 0 = .ok (.aload_n 0, 1) := by decide +kernel
theorem d_Head_addKey_1 : decode b_Head_addKey 1 = .ok (.getfield 15, 3) := by decide +kernel
theorem d_Head_addKey_4 : decode b_Head_addKey 4 = .ok (.bipush 9, 2) := by decide +kernel
theorem d_Head_addKey_6 : decode b_Head_addKey 6 = .ok (.dup2, 1) := by decide +kernel
theorem d_Head_addKey_7 : decode b_Head_addKey 7 = .ok (.iaload, 1) := by decide +kernel
theorem d_Head_addKey_8 : decode b_Head_addKey 8 = .ok (.iconst 1, 1) := by decide +kernel
theorem d_Head_addKey_9 : decode b_Head_addKey 9 = .ok (.iload_n 1, 1) := by decide +kernel
theorem d_Head_addKey_10 : decode b_Head_addKey 10 = .ok (.bipush 97, 2) := by decide +kernel
theorem d_Head_addKey_12 : decode b_Head_addKey 12 = .ok (.isub, 1) := by decide +kernel
theorem d_Head_addKey_13 : decode b_Head_addKey 13 = .ok (.ishl, 1) := by decide +kernel
theorem d_Head_addKey_14 : decode b_Head_addKey 14 = .ok (.ior, 1) := by decide +kernel
theorem d_Head_addKey_15 : decode b_Head_addKey 15 = .ok (.iastore, 1) := by decide +kernel
theorem d_Head_addKey_16 : decode b_Head_addKey 16 = .ok (.return_, 1) := by decide +kernel
end
section
theorem d_Reader_init_0 : decode b_Reader_init 0 = .ok (.aload_n 0, 1) := by decide +kernel
theorem d_Reader_init_1 : decode b_Reader_init 1 = .ok (.invokespecial 5, 3) := by decide +kernel
theorem d_Reader_init_4 : decode b_Reader_init 4 = .ok (.aload_n 0, 1) := by decide +kernel
theorem d_Reader_init_5 : decode b_Reader_init 5 = .ok (.bipush 100, 2) := by decide +kernel
theorem d_Reader_init_7 : decode b_Reader_init 7 = .ok (.newarray .int, 2) := by decide +kernel
theorem d_Reader_init_9 : decode b_Reader_init 9 = .ok (.putfield 13, 3) := by decide +kernel
theorem d_Reader_init_12 : decode b_Reader_init 12 = .ok (.aload_n 0, 1) := by decide +kernel
theorem d_Reader_init_13 : decode b_Reader_init 13 = .ok (.bipush 100, 2) := by decide +kernel
theorem d_Reader_init_15 : decode b_Reader_init 15 = .ok (.newarray .int, 2) := by decide +kernel
theorem d_Reader_init_17 : decode b_Reader_init 17 = .ok (.putfield 17, 3) := by decide +kernel
theorem d_Reader_init_20 : decode b_Reader_init 20 = .ok (.aload_n 0, 1) := by decide +kernel
theorem d_Reader_init_21 : decode b_Reader_init 21 = .ok (.new 20, 3) := by decide +kernel
theorem d_Reader_init_24 : decode b_Reader_init 24 = .ok (.dup, 1) := by decide +kernel
theorem d_Reader_init_25 : decode b_Reader_init 25 = .ok (.invokespecial 22, 3) := by decide +kernel
theorem d_Reader_init_28 : decode b_Reader_init 28 = .ok (.putfield 23, 3) := by decide +kernel
theorem d_Reader_init_31 : decode b_Reader_init 31 = .ok (.aload_n 0, 1) := by decide +kernel
theorem d_Reader_init_32 : decode b_Reader_init 32 = .ok (.iconst 0, 1) := by decide +kernel
theorem d_Reader_init_33 : decode b_Reader_init 33 = .ok (.putfield 27, 3) := by decide +kernel
theorem d_Reader_init_36 : decode b_Reader_init 36 = .ok (.aload_n 0, 1) := by decide +kernel
theorem d_Reader_init_37 : decode b_Reader_init 37 = .ok (.iconst 0, 1) := by decide +kernel
theorem d_Reader_init_38 : decode b_Reader_init 38 = .ok (.putfield 31, 3) := by decide +kernel
theorem d_Reader_init_41 : decode b_Reader_init 41 = .ok (.aload_n 0, 1) := by decide +kernel
theorem d_Reader_init_42 : decode b_Reader_init 42 = .ok (.iconst 0, 1) := by decide +kernel
theorem d_Reader_init_43 : decode b_Reader_init 43 = .ok (.putfield 34, 3) := by decide +kernel
theorem d_Reader_init_46 : decode b_Reader_init 46 = .ok (.aload_n 0, 1) := by decide +kernel
theorem d_Reader_init_47 : decode b_Reader_init 47 = .ok (.iconst (-1), 1) := by decide +kernel
theorem d_Reader_init_48 : decode b_Reader_init 48 = .ok (.putfield 37, 3) := by decide +kernel
theorem d_Reader_init_51 : decode b_Reader_init 51 = .ok (.aload_n 0, 1) := by decide +kernel
theorem d_Reader_init_52 : decode b_Reader_init 52 = .ok (.iconst 0, 1) := by decide +kernel
theorem d_Reader_init_53 : decode b_Reader_init 53 = .ok (.putfield 40, 3) := by decide +kernel
theorem d_Reader_init_56 : decode b_Reader_init 56 = .ok (.aload_n 0, 1) := by decide +kernel
theorem d_Reader_init_57 : decode b_Reader_init 57 = .ok (.iconst 0, 1) := by decide +kernel
theorem d_Reader_init_58 : decode b_Reader_init 58 = .ok (.putfield 43, 3) := by decide +kernel
theorem d_Reader_init_61 : decode b_Reader_init 61 = .ok (.aload_n 0, 1) := by decide +kernel
theorem d_Reader_init_62 : decode b_Reader_init 62 = .ok (.iconst 0, 1) := by decide +kernel
theorem d_Reader_init_63 : decode b_Reader_init 63 = .ok (.putfield 46, 3) := by decide +kernel
theorem d_Reader_init_66 : decode b_Reader_init 66 = .ok (.aload_n 0, 1) := by decide +kernel
theorem d_Reader_init_67 : decode b_Reader_init 67 = .ok (.aload_n 1, 1) := by decide +kernel
theorem d_Reader_init_68 : decode b_Reader_init 68 = .ok (.putfield 49, 3) := by decide +kernel
theorem d_Reader_init_71 : decode b_Reader_init 71 = .ok (.return_, 1) := by decide +kernel
theorem d_Reader_readText_0 : decode b_Reader_readText 0 = .ok (.aload_n 0, 1) := by decide +kernel
theorem d_Reader_readText_1 : decode b_Reader_readText 1 = .ok (.iload_n 1, 1) := by decide +kernel
theorem d_Reader_readText_2 : decode b_Reader_readText 2 = .ok (.putfield 31, 3) := by decide +kernel
theorem d_Reader_readText_5 : decode b_Reader_readText 5 = .ok (.aload_n 0, 1) := by decide +kernel
theorem d_Reader_readText_6 : decode b_Reader_readText 6 = .ok (.iconst 0, 1) := by decide +kernel
theorem d_Reader_readText_7 : decode b_Reader_readText 7 = .ok (.putfield 27, 3) := by decide +kernel
theorem d_Reader_readText_10 : decode b_Reader_readText 10 = .ok (.aload_n 0, 1) := by decide +kernel
theorem d_Reader_readText_11 : decode b_Reader_readText 11 = .ok (.iconst 0, 1) := by decide +kernel
theorem d_Reader_readText_12 : decode b_Reader_readText 12 = .ok (.putfield 34, 3) := by decide +kernel
theorem d_Reader_readText_15 : decode b_Reader_readText 15 = .ok (.aload_n 0, 1) := by decide +kernel
theorem d_Reader_readText_16 : decode b_Reader_readText 16 = .ok (.iconst (-1), 1) := by decide +kernel
theorem d_Reader_readText_17 : decode b_Reader_readText 17 = .ok (.putfield 37, 3) := by decide +kernel
theorem d_Reader_readText_20 : decode b_Reader_readText 20 = .ok (.aload_n 0, 1) := by decide +kernel
theorem d_Reader_readText_21 : decode b_Reader_readText 21 = .ok (.getfield 23, 3) := by decide +kernel
theorem d_Reader_readText_24 : decode b_Reader_readText 24 = .ok (.invokevirtual 53, 3) := by decide +kernel
theorem d_Reader_readText_27 : decode b_Reader_readText 27 = .ok (.aload_n 0, 1) := by decide +kernel
theorem d_Reader_readText_28 : decode b_Reader_readText 28 = .ok (.invokevirtual 56, 3) := by decide +kernel
theorem d_Reader_readText_31 : decode b_Reader_readText 31 = .ok (.ifCond .ne 5, 3) := by decide +kernel
theorem d_Reader_readText_34 : decode b_Reader_readText 34 = .ok (.iconst 0, 1) := by decide +kernel
theorem d_Reader_readText_35 : decode b_Reader_readText 35 = .ok (.ireturn, 1) := by decide +kernel
theorem d_Reader_readText_36 : decode b_Reader_readText 36 = .ok (.iconst 0, 1) := by decide +kernel
theorem d_Reader_readText_37 : decode b_Reader_readText 37 = .ok (.istore_n 2, 1) := by decide +kernel
theorem d_Reader_readText_38 : decode b_Reader_readText 38 = .ok (.iload_n 2, 1) := by decide +kernel
theorem d_Reader_readText_39 : decode b_Reader_readText 39 = .ok (.bipush 100, 2) := by decide +kernel
theorem d_Reader_readText_41 : decode b_Reader_readText 41 = .ok (.if_icmp .gt 68, 3) := by decide +kernel
theorem d_Reader_readText_44 : decode b_Reader_readText 44 = .ok (.aload_n 0, 1) := by decide +kernel
theorem d_Reader_readText_45 : decode b_Reader_readText 45 = .ok (.bipush 10, 2) := by decide +kernel
theorem d_Reader_readText_47 : decode b_Reader_readText 47 = .ok (.invokevirtual 60, 3) := by decide +kernel
theorem d_Reader_readText_50 : decode b_Reader_readText 50 = .ok (.ifCond .eq 28, 3) := by decide +kernel
theorem d_Reader_readText_53 : decode b_Reader_readText 53 = .ok (.aload_n 0, 1) := by decide +kernel
theorem d_Reader_readText_54 : decode b_Reader_readText 54 = .ok (.invokevirtual 64, 3) := by decide +kernel
theorem d_Reader_readText_57 : decode b_Reader_readText 57 = .ok (.iconst (-1), 1) := by decide +kernel
theorem d_Reader_readText_58 : decode b_Reader_readText 58 = .ok (.if_icmp .eq 14, 3) := by decide +kernel
theorem d_Reader_readText_61 : decode b_Reader_readText 61 = .ok (.aload_n 0, 1) := by decide +kernel
theorem d_Reader_readText_62 : decode b_Reader_readText 62 = .ok (.aload_n 0, 1) := by decide +kernel
theorem d_Reader_readText_63 : decode b_Reader_readText 63 = .ok (.getfield 34, 3) := by decide +kernel
theorem d_Reader_readText_66 : decode b_Reader_readText 66 = .ok (.invokevirtual 68, 3) := by decide +kernel
theorem d_Reader_readText_69 : decode b_Reader_readText 69 = .ok (.ifCond .eq 7, 3) := by decide +kernel
theorem d_Reader_readText_72 : decode b_Reader_readText 72 = .ok (.iconst 1, 1) := by decide +kernel
theorem d_Reader_readText_73 : decode b_Reader_readText 73 = .ok (.goto 4, 3) := by decide +kernel
theorem d_Reader_readText_76 : decode b_Reader_readText 76 = .ok (.iconst 0, 1) := by decide +kernel
theorem d_Reader_readText_77 : decode b_Reader_readText 77 = .ok (.ireturn, 1) := by decide +kernel
theorem d_Reader_readText_78 : decode b_Reader_readText 78 = .ok (.aload_n 0, 1) := by decide +kernel
theorem d_Reader_readText_79 : decode b_Reader_readText 79 = .ok (.invokevirtual 72, 3) := by decide +kernel
theorem d_Reader_readText_82 : decode b_Reader_readText 82 = .ok (.ifCond .eq 19, 3) := by decide +kernel
theorem d_Reader_readText_85 : decode b_Reader_readText 85 = .ok (.aload_n 0, 1) := by decide +kernel
theorem d_Reader_readText_86 : decode b_Reader_readText 86 = .ok (.invokevirtual 75, 3) := by decide +kernel
theorem d_Reader_readText_89 : decode b_Reader_readText 89 = .ok (.ifCond .eq 12, 3) := by decide +kernel
theorem d_Reader_readText_92 : decode b_Reader_readText 92 = .ok (.aload_n 0, 1) := by decide +kernel
theorem d_Reader_readText_93 : decode b_Reader_readText 93 = .ok (.bipush 10, 2) := by decide +kernel
theorem d_Reader_readText_95 : decode b_Reader_readText 95 = .ok (.invokevirtual 78, 3) := by decide +kernel
theorem d_Reader_readText_98 : decode b_Reader_readText 98 = .ok (.ifCond .ne 5, 3) := by decide +kernel
theorem d_Reader_readText_101 : decode b_Reader_readText 101 = .ok (.iconst 0, 1) := by decide +kernel
theorem d_Reader_readText_102 : decode b_Reader_readText 102 = .ok (.ireturn, 1) := by decide +kernel
theorem d_Reader_readText_103 : decode b_Reader_readText 103 = .ok (.iinc 2 1, 3) := by decide +kernel
theorem d_Reader_readText_106 : decode b_Reader_readText 106 = .ok (.goto (-68), 3) := by decide +kernel
theorem d_Reader_readText_109 : decode b_Reader_readText 109 = .ok (.aload_n 0, 1) := by decide +kernel
theorem d_Reader_readText_110 : decode b_Reader_readText 110 = .ok (.aload_n 0, 1) := by decide +kernel
theorem d_Reader_readText_111 : decode b_Reader_readText 111 = .ok (.getfield 34, 3) := by decide +kernel
theorem d_Reader_readText_114 : decode b_Reader_readText 114 = .ok (.invokevirtual 68, 3) := by decide +kernel
theorem d_Reader_readText_117 : decode b_Reader_readText 117 = .ok (.ireturn, 1) := by decide +kernel
theorem d_Reader_readFirstLine_0 : decode b_Reader_readFirstLine 0 = .ok (.aload_n 0, 1) := by decide +kernel
theorem d_Reader_readFirstLine_1 : decode b_Reader_readFirstLine 1 = .ok (.invokevirtual 81, 3) := by decide +kernel
theorem d_Reader_readFirstLine_4 : decode b_Reader_readFirstLine 4 = .ok (.ifCond .eq 41, 3) := by decide +kernel
theorem d_Reader_readFirstLine_7 : decode b_Reader_readFirstLine 7 = .ok (.aload_n 0, 1) := by decide +kernel
theorem d_Reader_readFirstLine_8 : decode b_Reader_readFirstLine 8 = .ok (.bipush 32, 2) := by decide +kernel
theorem d_Reader_readFirstLine_10 : decode b_Reader_readFirstLine 10 = .ok (.invokevirtual 78, 3) := by decide +kernel
theorem d_Reader_readFirstLine_13 : decode b_Reader_readFirstLine 13 = .ok (.ifCond .eq 32, 3) := by decide +kernel
theorem d_Reader_readFirstLine_16 : decode b_Reader_readFirstLine 16 = .ok (.aload_n 0, 1) := by decide +kernel
theorem d_Reader_readFirstLine_17 : decode b_Reader_readFirstLine 17 = .ok (.bipush 47, 2) := by decide +kernel
theorem d_Reader_readFirstLine_19 : decode b_Reader_readFirstLine 19 = .ok (.invokevirtual 78, 3) := by decide +kernel
theorem d_Reader_readFirstLine_22 : decode b_Reader_readFirstLine 22 = .ok (.ifCond .eq 23, 3) := by decide +kernel
theorem d_Reader_readFirstLine_25 : decode b_Reader_readFirstLine 25 = .ok (.aload_n 0, 1) := by decide +kernel
theorem d_Reader_readFirstLine_26 : decode b_Reader_readFirstLine 26 = .ok (.invokevirtual 84, 3) := by decide +kernel
theorem d_Reader_readFirstLine_29 : decode b_Reader_readFirstLine 29 = .ok (.ifCond .eq 16, 3) := by decide +kernel
theorem d_Reader_readFirstLine_32 : decode b_Reader_readFirstLine 32 = .ok (.aload_n 0, 1) := by decide +kernel
theorem d_Reader_readFirstLine_33 : decode b_Reader_readFirstLine 33 = .ok (.bipush 10, 2) := by decide +kernel
theorem d_Reader_readFirstLine_35 : decode b_Reader_readFirstLine 35 = .ok (.invokevirtual 78, 3) := by decide +kernel
theorem d_Reader_readFirstLine_38 : decode b_Reader_readFirstLine 38 = .ok (.ifCond .eq 7, 3) := by decide +kernel
theorem d_Reader_readFirstLine_41 : decode b_Reader_readFirstLine 41 = .ok (.iconst 1, 1) := by decide +kernel
theorem d_Reader_readFirstLine_42 : decode b_Reader_readFirstLine 42 = .ok (.goto 4, 3) := by decide +kernel
theorem d_Reader_readFirstLine_45 : decode b_Reader_readFirstLine 45 = .ok (.iconst 0, 1) := by decide +kernel
theorem d_Reader_readFirstLine_46 : decode b_Reader_readFirstLine 46 = .ok (.ireturn, 1) := by decide +kernel
theorem d_Reader_readVerb_0 : decode b_Reader_readVerb 0 = .ok (.aload_n 0, 1) := by decide +kernel
theorem d_Reader_readVerb_1 : decode b_Reader_readVerb 1 = .ok (.getfield 31, 3) := by decide +kernel
theorem d_Reader_readVerb_4 : decode b_Reader_readVerb 4 = .ok (.iconst 1, 1) := by decide +kernel
theorem d_Reader_readVerb_5 : decode b_Reader_readVerb 5 = .ok (.if_icmp .ne 19, 3) := by decide +kernel
theorem d_Reader_readVerb_8 : decode b_Reader_readVerb 8 = .ok (.aload_n 0, 1) := by decide +kernel
theorem d_Reader_readVerb_9 : decode b_Reader_readVerb 9 = .ok (.getfield 23, 3) := by decide +kernel
theorem d_Reader_readVerb_12 : decode b_Reader_readVerb 12 = .ok (.iconst 0, 1) := by decide +kernel
theorem d_Reader_readVerb_13 : decode b_Reader_readVerb 13 = .ok (.iconst 3, 1) := by decide +kernel
theorem d_Reader_readVerb_14 : decode b_Reader_readVerb 14 = .ok (.invokevirtual 87, 3) := by decide +kernel
theorem d_Reader_readVerb_17 : decode b_Reader_readVerb 17 = .ok (.aload_n 0, 1) := by decide +kernel
theorem d_Reader_readVerb_18 : decode b_Reader_readVerb 18 = .ok (.ldc 91, 2) := by decide +kernel
theorem d_Reader_readVerb_20 : decode b_Reader_readVerb 20 = .ok (.invokevirtual 93, 3) := by decide +kernel
theorem d_Reader_readVerb_23 : decode b_Reader_readVerb 23 = .ok (.ireturn, 1) := by decide +kernel
theorem d_Reader_readVerb_24 : decode b_Reader_readVerb 24 = .ok (.aload_n 0, 1) := by decide +kernel
theorem d_Reader_readVerb_25 : decode b_Reader_readVerb 25 = .ok (.invokevirtual 64, 3) := by decide +kernel
theorem d_Reader_readVerb_28 : decode b_Reader_readVerb 28 = .ok (.bipush 72, 2) := by decide +kernel
theorem d_Reader_readVerb_30 : decode b_Reader_readVerb 30 = .ok (.if_icmp .ne 19, 3) := by decide +kernel
theorem d_Reader_readVerb_33 : decode b_Reader_readVerb 33 = .ok (.aload_n 0, 1) := by decide +kernel
theorem d_Reader_readVerb_34 : decode b_Reader_readVerb 34 = .ok (.getfield 23, 3) := by decide +kernel
theorem d_Reader_readVerb_37 : decode b_Reader_readVerb 37 = .ok (.iconst 0, 1) := by decide +kernel
theorem d_Reader_readVerb_38 : decode b_Reader_readVerb 38 = .ok (.iconst 2, 1) := by decide +kernel
theorem d_Reader_readVerb_39 : decode b_Reader_readVerb 39 = .ok (.invokevirtual 87, 3) := by decide +kernel
theorem d_Reader_readVerb_42 : decode b_Reader_readVerb 42 = .ok (.aload_n 0, 1) := by decide +kernel
theorem d_Reader_readVerb_43 : decode b_Reader_readVerb 43 = .ok (.ldc 97, 2) := by decide +kernel
theorem d_Reader_readVerb_45 : decode b_Reader_readVerb 45 = .ok (.invokevirtual 93, 3) := by decide +kernel
theorem d_Reader_readVerb_48 : decode b_Reader_readVerb 48 = .ok (.ireturn, 1) := by decide +kernel
theorem d_Reader_readVerb_49 : decode b_Reader_readVerb 49 = .ok (.aload_n 0, 1) := by decide +kernel
theorem d_Reader_readVerb_50 : decode b_Reader_readVerb 50 = .ok (.getfield 23, 3) := by decide +kernel
theorem d_Reader_readVerb_53 : decode b_Reader_readVerb 53 = .ok (.iconst 0, 1) := by decide +kernel
theorem d_Reader_readVerb_54 : decode b_Reader_readVerb 54 = .ok (.iconst 1, 1) := by decide +kernel
theorem d_Reader_readVerb_55 : decode b_Reader_readVerb 55 = .ok (.invokevirtual 87, 3) := by decide +kernel
theorem d_Reader_readVerb_58 : decode b_Reader_readVerb 58 = .ok (.aload_n 0, 1) := by decide +kernel
theorem d_Reader_readVerb_59 : decode b_Reader_readVerb 59 = .ok (.ldc 99, 2) := by decide +kernel
theorem d_Reader_readVerb_61 : decode b_Reader_readVerb 61 = .ok (.invokevirtual 93, 3) := by decide +kernel
theorem d_Reader_readVerb_64 : decode b_Reader_readVerb 64 = .ok (.ireturn, 1) := by decide +kernel
theorem d_Reader_takeAll_0 : decode b_Reader_takeAll 0 = .ok (.iconst 0, 1) := by decide +kernel
theorem d_Reader_takeAll_1 : decode b_Reader_takeAll 1 = .ok (.istore_n 2, 1) := by decide +kernel
theorem d_Reader_takeAll_2 : decode b_Reader_takeAll 2 = .ok (.iload_n 2, 1) := by decide +kernel
theorem d_Reader_takeAll_3 : decode b_Reader_takeAll 3 = .ok (.aload_n 1, 1) := by decide +kernel
theorem d_Reader_takeAll_4 : decode b_Reader_takeAll 4 = .ok (.invokevirtual 188, 3) := by decide +kernel
theorem d_Reader_takeAll_7 : decode b_Reader_takeAll 7 = .ok (.if_icmp .ge 40, 3) := by decide +kernel
theorem d_Reader_takeAll_10 : decode b_Reader_takeAll 10 = .ok (.aload_n 0, 1) := by decide +kernel
theorem d_Reader_takeAll_11 : decode b_Reader_takeAll 11 = .ok (.invokevirtual 64, 3) := by decide +kernel
theorem d_Reader_takeAll_14 : decode b_Reader_takeAll 14 = .ok (.aload_n 1, 1) := by decide +kernel
theorem d_Reader_takeAll_15 : decode b_Reader_takeAll 15 = .ok (.iload_n 2, 1) := by decide +kernel
theorem d_Reader_takeAll_16 : decode b_Reader_takeAll 16 = .ok (.invokevirtual 192, 3) := by decide +kernel
theorem d_Reader_takeAll_19 : decode b_Reader_takeAll 19 = .ok (.if_icmp .eq 12, 3) := by decide +kernel
theorem d_Reader_takeAll_22 : decode b_Reader_takeAll 22 = .ok (.aload_n 0, 1) := by decide +kernel
theorem d_Reader_takeAll_23 : decode b_Reader_takeAll 23 = .ok (.aload_n 0, 1) := by decide +kernel
theorem d_Reader_takeAll_24 : decode b_Reader_takeAll 24 = .ok (.getfield 34, 3) := by decide +kernel
theorem d_Reader_takeAll_27 : decode b_Reader_takeAll 27 = .ok (.invokevirtual 68, 3) := by decide +kernel
theorem d_Reader_takeAll_30 : decode b_Reader_takeAll 30 = .ok (.ireturn, 1) := by decide +kernel
theorem d_Reader_takeAll_31 : decode b_Reader_takeAll 31 = .ok (.aload_n 0, 1) := by decide +kernel
theorem d_Reader_takeAll_32 : decode b_Reader_takeAll 32 = .ok (.dup, 1) := by decide +kernel
theorem d_Reader_takeAll_33 : decode b_Reader_takeAll 33 = .ok (.getfield 34, 3) := by decide +kernel
theorem d_Reader_takeAll_36 : decode b_Reader_takeAll 36 = .ok (.iconst 1, 1) := by decide +kernel
theorem d_Reader_takeAll_37 : decode b_Reader_takeAll 37 = .ok (.iadd, 1) := by decide +kernel
theorem d_Reader_takeAll_38 : decode b_Reader_takeAll 38 = .ok (.putfield 34, 3) := by decide +kernel
theorem d_Reader_takeAll_41 : decode b_Reader_takeAll 41 = .ok (.iinc 2 1, 3) := by decide +kernel
theorem d_Reader_takeAll_44 : decode b_Reader_takeAll 44 = .ok (.goto (-42), 3) := by decide +kernel
theorem d_Reader_takeAll_47 : decode b_Reader_takeAll 47 = .ok (.iconst 1, 1) := by decide +kernel
theorem d_Reader_takeAll_48 : decode b_Reader_takeAll 48 = .ok (.ireturn, 1) := by decide +kernel
theorem d_Reader_mark_0 : decode b_Reader_mark 0 = .ok (.aload_n 0, 1) := by decide +kernel
theorem d_Reader_mark_1 : decode b_Reader_mark 1 = .ok (.getfield 49, 3) := by decide +kernel
theorem d_Reader_mark_4 : decode b_Reader_mark 4 = .ok (.aload_n 0, 1) := by decide +kernel
theorem d_Reader_mark_5 : decode b_Reader_mark 5 = .ok (.getfield 34, 3) := by decide +kernel
theorem d_Reader_mark_8 : decode b_Reader_mark 8 = .ok (.invokevirtual 184, 3) := by decide +kernel
theorem d_Reader_mark_11 : decode b_Reader_mark 11 = .ok (.ireturn, 1) := by decide +kernel
theorem d_Reader_stop_0 : decode b_Reader_stop 0 = .ok (.aload_n 0, 1) := by decide +kernel
theorem d_Reader_stop_1 : decode b_Reader_stop 1 = .ok (.iload_n 1, 1) := by decide +kernel
theorem d_Reader_stop_2 : decode b_Reader_stop 2 = .ok (.putfield 37, 3) := by decide +kernel
theorem d_Reader_stop_5 : decode b_Reader_stop 5 = .ok (.iconst 0, 1) := by decide +kernel
theorem d_Reader_stop_6 : decode b_Reader_stop 6 = .ok (.ireturn, 1) := by decide +kernel
theorem d_Reader_take_0 : decode b_Reader_take 0 = .ok (.aload_n 0, 1) := by decide +kernel
theorem d_Reader_take_1 : decode b_Reader_take 1 = .ok (.invokevirtual 64, 3) := by decide +kernel
theorem d_Reader_take_4 : decode b_Reader_take 4 = .ok (.iload_n 1, 1) := by decide +kernel
theorem d_Reader_take_5 : decode b_Reader_take 5 = .ok (.if_icmp .eq 12, 3) := by decide +kernel
theorem d_Reader_take_8 : decode b_Reader_take 8 = .ok (.aload_n 0, 1) := by decide +kernel
theorem d_Reader_take_9 : decode b_Reader_take 9 = .ok (.aload_n 0, 1) := by decide +kernel
theorem d_Reader_take_10 : decode b_Reader_take 10 = .ok (.getfield 34, 3) := by decide +kernel
theorem d_Reader_take_13 : decode b_Reader_take 13 = .ok (.invokevirtual 68, 3) := by decide +kernel
theorem d_Reader_take_16 : decode b_Reader_take 16 = .ok (.ireturn, 1) := by decide +kernel
theorem d_Reader_take_17 : decode b_Reader_take 17 = .ok (.aload_n 0, 1) := by decide +kernel
theorem d_Reader_take_18 : decode b_Reader_take 18 = .ok (.dup, 1) := by decide +kernel
theorem d_Reader_take_19 : decode b_Reader_take 19 = .ok (.getfield 34, 3) := by decide +kernel
theorem d_Reader_take_22 : decode b_Reader_take 22 = .ok (.iconst 1, 1) := by decide +kernel
theorem d_Reader_take_23 : decode b_Reader_take 23 = .ok (.iadd, 1) := by decide +kernel
theorem d_Reader_take_24 : decode b_Reader_take 24 = .ok (.putfield 34, 3) := by decide +kernel
theorem d_Reader_take_27 : decode b_Reader_take 27 = .ok (.iconst 1, 1) := by decide +kernel
theorem d_Reader_take_28 : decode b_Reader_take 28 = .ok (.ireturn, 1) := by decide +kernel
theorem d_Reader_readTarget_0 : decode b_Reader_readTarget 0 = .ok (.aload_n 0, 1) := by decide +kernel
theorem d_Reader_readTarget_1 : decode b_Reader_readTarget 1 = .ok (.bipush 31, 2) := by decide +kernel
theorem d_Reader_readTarget_3 : decode b_Reader_readTarget 3 = .ok (.invokevirtual 101, 3) := by decide +kernel
theorem d_Reader_readTarget_6 : decode b_Reader_readTarget 6 = .ok (.ifCond .ne 5, 3) := by decide +kernel
theorem d_Reader_readTarget_9 : decode b_Reader_readTarget 9 = .ok (.iconst 0, 1) := by decide +kernel
theorem d_Reader_readTarget_10 : decode b_Reader_readTarget 10 = .ok (.ireturn, 1) := by decide +kernel
theorem d_Reader_readTarget_11 : decode b_Reader_readTarget 11 = .ok (.aload_n 0, 1) := by decide +kernel
theorem d_Reader_readTarget_12 : decode b_Reader_readTarget 12 = .ok (.getfield 23, 3) := by decide +kernel
theorem d_Reader_readTarget_15 : decode b_Reader_readTarget 15 = .ok (.iconst 1, 1) := by decide +kernel
theorem d_Reader_readTarget_16 : decode b_Reader_readTarget 16 = .ok (.aload_n 0, 1) := by decide +kernel
theorem d_Reader_readTarget_17 : decode b_Reader_readTarget 17 = .ok (.getfield 40, 3) := by decide +kernel
theorem d_Reader_readTarget_20 : decode b_Reader_readTarget 20 = .ok (.invokevirtual 87, 3) := by decide +kernel
theorem d_Reader_readTarget_23 : decode b_Reader_readTarget 23 = .ok (.aload_n 0, 1) := by decide +kernel
theorem d_Reader_readTarget_24 : decode b_Reader_readTarget 24 = .ok (.getfield 31, 3) := by decide +kernel
theorem d_Reader_readTarget_27 : decode b_Reader_readTarget 27 = .ok (.iconst 1, 1) := by decide +kernel
theorem d_Reader_readTarget_28 : decode b_Reader_readTarget 28 = .ok (.if_icmp .eq 12, 3) := by decide +kernel
theorem d_Reader_readTarget_31 : decode b_Reader_readTarget 31 = .ok (.aload_n 0, 1) := by decide +kernel
theorem d_Reader_readTarget_32 : decode b_Reader_readTarget 32 = .ok (.bipush 47, 2) := by decide +kernel
theorem d_Reader_readTarget_34 : decode b_Reader_readTarget 34 = .ok (.invokevirtual 60, 3) := by decide +kernel
theorem d_Reader_readTarget_37 : decode b_Reader_readTarget 37 = .ok (.ifCond .ne 5, 3) := by decide +kernel
theorem d_Reader_readTarget_40 : decode b_Reader_readTarget 40 = .ok (.iconst 1, 1) := by decide +kernel
theorem d_Reader_readTarget_41 : decode b_Reader_readTarget 41 = .ok (.ireturn, 1) := by decide +kernel
theorem d_Reader_readTarget_42 : decode b_Reader_readTarget 42 = .ok (.aload_n 0, 1) := by decide +kernel
theorem d_Reader_readTarget_43 : decode b_Reader_readTarget 43 = .ok (.iconst 3, 1) := by decide +kernel
theorem d_Reader_readTarget_44 : decode b_Reader_readTarget 44 = .ok (.invokevirtual 101, 3) := by decide +kernel
theorem d_Reader_readTarget_47 : decode b_Reader_readTarget 47 = .ok (.ifCond .ne 5, 3) := by decide +kernel
theorem d_Reader_readTarget_50 : decode b_Reader_readTarget 50 = .ok (.iconst 0, 1) := by decide +kernel
theorem d_Reader_readTarget_51 : decode b_Reader_readTarget 51 = .ok (.ireturn, 1) := by decide +kernel
theorem d_Reader_readTarget_52 : decode b_Reader_readTarget 52 = .ok (.aload_n 0, 1) := by decide +kernel
theorem d_Reader_readTarget_53 : decode b_Reader_readTarget 53 = .ok (.getfield 23, 3) := by decide +kernel
theorem d_Reader_readTarget_56 : decode b_Reader_readTarget 56 = .ok (.iconst 2, 1) := by decide +kernel
theorem d_Reader_readTarget_57 : decode b_Reader_readTarget 57 = .ok (.aload_n 0, 1) := by decide +kernel
theorem d_Reader_readTarget_58 : decode b_Reader_readTarget 58 = .ok (.getfield 40, 3) := by decide +kernel
theorem d_Reader_readTarget_61 : decode b_Reader_readTarget 61 = .ok (.invokevirtual 87, 3) := by decide +kernel
theorem d_Reader_readTarget_64 : decode b_Reader_readTarget 64 = .ok (.iconst 1, 1) := by decide +kernel
theorem d_Reader_readTarget_65 : decode b_Reader_readTarget 65 = .ok (.ireturn, 1) := by decide +kernel
theorem d_Reader_takeNumber_0 : decode b_Reader_takeNumber 0 = .ok (.aload_n 0, 1) := by decide +kernel
theorem d_Reader_takeNumber_1 : decode b_Reader_takeNumber 1 = .ok (.getfield 34, 3) := by decide +kernel
theorem d_Reader_takeNumber_4 : decode b_Reader_takeNumber 4 = .ok (.istore_n 2, 1) := by decide +kernel
theorem d_Reader_takeNumber_5 : decode b_Reader_takeNumber 5 = .ok (.aload_n 0, 1) := by decide +kernel
theorem d_Reader_takeNumber_6 : decode b_Reader_takeNumber 6 = .ok (.iconst 0, 1) := by decide +kernel
theorem d_Reader_takeNumber_7 : decode b_Reader_takeNumber 7 = .ok (.putfield 40, 3) := by decide +kernel
theorem d_Reader_takeNumber_10 : decode b_Reader_takeNumber 10 = .ok (.iconst 0, 1) := by decide +kernel
theorem d_Reader_takeNumber_11 : decode b_Reader_takeNumber 11 = .ok (.istore_n 3, 1) := by decide +kernel
theorem d_Reader_takeNumber_12 : decode b_Reader_takeNumber 12 = .ok (.iload_n 3, 1) := by decide +kernel
theorem d_Reader_takeNumber_13 : decode b_Reader_takeNumber 13 = .ok (.iconst 5, 1) := by decide +kernel
theorem d_Reader_takeNumber_14 : decode b_Reader_takeNumber 14 = .ok (.if_icmp .ge 48, 3) := by decide +kernel
theorem d_Reader_takeNumber_17 : decode b_Reader_takeNumber 17 = .ok (.aload_n 0, 1) := by decide +kernel
theorem d_Reader_takeNumber_18 : decode b_Reader_takeNumber 18 = .ok (.invokevirtual 64, 3) := by decide +kernel
theorem d_Reader_takeNumber_21 : decode b_Reader_takeNumber 21 = .ok (.invokestatic 152, 3) := by decide +kernel
theorem d_Reader_takeNumber_24 : decode b_Reader_takeNumber 24 = .ok (.ifCond .eq 38, 3) := by decide +kernel
theorem d_Reader_takeNumber_27 : decode b_Reader_takeNumber 27 = .ok (.aload_n 0, 1) := by decide +kernel
theorem d_Reader_takeNumber_28 : decode b_Reader_takeNumber 28 = .ok (.aload_n 0, 1) := by decide +kernel
theorem d_Reader_takeNumber_29 : decode b_Reader_takeNumber 29 = .ok (.getfield 40, 3) := by decide +kernel
theorem d_Reader_takeNumber_32 : decode b_Reader_takeNumber 32 = .ok (.bipush 10, 2) := by decide +kernel
theorem d_Reader_takeNumber_34 : decode b_Reader_takeNumber 34 = .ok (.imul, 1) := by decide +kernel
theorem d_Reader_takeNumber_35 : decode b_Reader_takeNumber 35 = .ok (.aload_n 0, 1) := by decide +kernel
theorem d_Reader_takeNumber_36 : decode b_Reader_takeNumber 36 = .ok (.invokevirtual 64, 3) := by decide +kernel
theorem d_Reader_takeNumber_39 : decode b_Reader_takeNumber 39 = .ok (.bipush 48, 2) := by decide +kernel
theorem d_Reader_takeNumber_41 : decode b_Reader_takeNumber 41 = .ok (.isub, 1) := by decide +kernel
theorem d_Reader_takeNumber_42 : decode b_Reader_takeNumber 42 = .ok (.iadd, 1) := by decide +kernel
theorem d_Reader_takeNumber_43 : decode b_Reader_takeNumber 43 = .ok (.putfield 40, 3) := by decide +kernel
theorem d_Reader_takeNumber_46 : decode b_Reader_takeNumber 46 = .ok (.aload_n 0, 1) := by decide +kernel
theorem d_Reader_takeNumber_47 : decode b_Reader_takeNumber 47 = .ok (.dup, 1) := by decide +kernel
theorem d_Reader_takeNumber_48 : decode b_Reader_takeNumber 48 = .ok (.getfield 34, 3) := by decide +kernel
theorem d_Reader_takeNumber_51 : decode b_Reader_takeNumber 51 = .ok (.iconst 1, 1) := by decide +kernel
theorem d_Reader_takeNumber_52 : decode b_Reader_takeNumber 52 = .ok (.iadd, 1) := by decide +kernel
theorem d_Reader_takeNumber_53 : decode b_Reader_takeNumber 53 = .ok (.putfield 34, 3) := by decide +kernel
theorem d_Reader_takeNumber_56 : decode b_Reader_takeNumber 56 = .ok (.iinc 3 1, 3) := by decide +kernel
theorem d_Reader_takeNumber_59 : decode b_Reader_takeNumber 59 = .ok (.goto (-47), 3) := by decide +kernel
theorem d_Reader_takeNumber_62 : decode b_Reader_takeNumber 62 = .ok (.aload_n 0, 1) := by decide +kernel
theorem d_Reader_takeNumber_63 : decode b_Reader_takeNumber 63 = .ok (.getfield 34, 3) := by decide +kernel
theorem d_Reader_takeNumber_66 : decode b_Reader_takeNumber 66 = .ok (.iload_n 2, 1) := by decide +kernel
theorem d_Reader_takeNumber_67 : decode b_Reader_takeNumber 67 = .ok (.if_icmp .ne 12, 3) := by decide +kernel
theorem d_Reader_takeNumber_70 : decode b_Reader_takeNumber 70 = .ok (.aload_n 0, 1) := by decide +kernel
theorem d_Reader_takeNumber_71 : decode b_Reader_takeNumber 71 = .ok (.aload_n 0, 1) := by decide +kernel
theorem d_Reader_takeNumber_72 : decode b_Reader_takeNumber 72 = .ok (.getfield 34, 3) := by decide +kernel
theorem d_Reader_takeNumber_75 : decode b_Reader_takeNumber 75 = .ok (.invokevirtual 68, 3) := by decide +kernel
theorem d_Reader_takeNumber_78 : decode b_Reader_takeNumber 78 = .ok (.ireturn, 1) := by decide +kernel
theorem d_Reader_takeNumber_79 : decode b_Reader_takeNumber 79 = .ok (.aload_n 0, 1) := by decide +kernel
theorem d_Reader_takeNumber_80 : decode b_Reader_takeNumber 80 = .ok (.getfield 40, 3) := by decide +kernel
theorem d_Reader_takeNumber_83 : decode b_Reader_takeNumber 83 = .ok (.iload_n 1, 1) := by decide +kernel
theorem d_Reader_takeNumber_84 : decode b_Reader_takeNumber 84 = .ok (.if_icmp .le 11, 3) := by decide +kernel
theorem d_Reader_takeNumber_87 : decode b_Reader_takeNumber 87 = .ok (.aload_n 0, 1) := by decide +kernel
theorem d_Reader_takeNumber_88 : decode b_Reader_takeNumber 88 = .ok (.iload_n 2, 1) := by decide +kernel
theorem d_Reader_takeNumber_89 : decode b_Reader_takeNumber 89 = .ok (.invokevirtual 68, 3) := by decide +kernel
theorem d_Reader_takeNumber_92 : decode b_Reader_takeNumber 92 = .ok (.ifCond .eq 7, 3) := by decide +kernel
theorem d_Reader_takeNumber_95 : decode b_Reader_takeNumber 95 = .ok (.iconst 1, 1) := by decide +kernel
theorem d_Reader_takeNumber_96 : decode b_Reader_takeNumber 96 = .ok (.goto 4, 3) := by decide +kernel
theorem d_Reader_takeNumber_99 : decode b_Reader_takeNumber 99 = .ok (.iconst 0, 1) := by decide +kernel
theorem d_Reader_takeNumber_100 : decode b_Reader_takeNumber 100 = .ok (.ireturn, 1) := by decide +kernel
theorem d_Reader_isDigit_0 : decode b_Reader_isDigit 0 = .ok (.iload_n 0, 1) := by decide +kernel
theorem d_Reader_isDigit_1 : decode b_Reader_isDigit 1 = .ok (.bipush 48, 2) := by decide +kernel
theorem d_Reader_isDigit_3 : decode b_Reader_isDigit 3 = .ok (.if_icmp .lt 13, 3) := by decide +kernel
theorem d_Reader_isDigit_6 : decode b_Reader_isDigit 6 = .ok (.iload_n 0, 1) := by decide +kernel
theorem d_Reader_isDigit_7 : decode b_Reader_isDigit 7 = .ok (.bipush 57, 2) := by decide +kernel
theorem d_Reader_isDigit_9 : decode b_Reader_isDigit 9 = .ok (.if_icmp .gt 7, 3) := by decide +kernel
theorem d_Reader_isDigit_12 : decode b_Reader_isDigit 12 = .ok (.iconst 1, 1) := by decide +kernel
theorem d_Reader_isDigit_13 : decode b_Reader_isDigit 13 = .ok (.goto 4, 3) := by decide +kernel
theorem d_Reader_isDigit_16 : decode b_Reader_isDigit 16 = .ok (.iconst 0, 1) := by decide +kernel
theorem d_Reader_isDigit_17 : decode b_Reader_isDigit 17 = .ok (.ireturn, 1) := by decide +kernel
theorem d_Reader_skip_0 : decode b_Reader_skip 0 = .ok (.aload_n 0, 1) := by decide +kernel
theorem d_Reader_skip_1 : decode b_Reader_skip 1 = .ok (.invokevirtual 64, 3) := by decide +kernel
theorem d_Reader_skip_4 : decode b_Reader_skip 4 = .ok (.iload_n 1, 1) := by decide +kernel
theorem d_Reader_skip_5 : decode b_Reader_skip 5 = .ok (.if_icmp .eq 5, 3) := by decide +kernel
theorem d_Reader_skip_8 : decode b_Reader_skip 8 = .ok (.iconst 0, 1) := by decide +kernel
theorem d_Reader_skip_9 : decode b_Reader_skip 9 = .ok (.ireturn, 1) := by decide +kernel
theorem d_Reader_skip_10 : decode b_Reader_skip 10 = .ok (.aload_n 0, 1) := by decide +kernel
theorem d_Reader_skip_11 : decode b_Reader_skip 11 = .ok (.dup, 1) := by decide +kernel
theorem d_Reader_skip_12 : decode b_Reader_skip 12 = .ok (.getfield 34, 3) := by decide +kernel
theorem d_Reader_skip_15 : decode b_Reader_skip 15 = .ok (.iconst 1, 1) := by decide +kernel
theorem d_Reader_skip_16 : decode b_Reader_skip 16 = .ok (.iadd, 1) := by decide +kernel
theorem d_Reader_skip_17 : decode b_Reader_skip 17 = .ok (.putfield 34, 3) := by decide +kernel
theorem d_Reader_skip_20 : decode b_Reader_skip 20 = .ok (.iconst 1, 1) := by decide +kernel
theorem d_Reader_skip_21 : decode b_Reader_skip 21 = .ok (.ireturn, 1) := by decide +kernel
theorem d_Reader_readName_0 : decode b_Reader_readName 0 = .ok (.aload_n 0, 1) := by decide +kernel
theorem d_Reader_readName_1 : decode b_Reader_readName 1 = .ok (.bipush 20, 2) := by decide +kernel
theorem d_Reader_readName_3 : decode b_Reader_readName 3 = .ok (.invokevirtual 104, 3) := by decide +kernel
theorem d_Reader_readName_6 : decode b_Reader_readName 6 = .ok (.ifCond .eq 12, 3) := by decide +kernel
theorem d_Reader_readName_9 : decode b_Reader_readName 9 = .ok (.aload_n 0, 1) := by decide +kernel
theorem d_Reader_readName_10 : decode b_Reader_readName 10 = .ok (.bipush 58, 2) := by decide +kernel
theorem d_Reader_readName_12 : decode b_Reader_readName 12 = .ok (.invokevirtual 78, 3) := by decide +kernel
theorem d_Reader_readName_15 : decode b_Reader_readName 15 = .ok (.ifCond .ne 5, 3) := by decide +kernel
theorem d_Reader_readName_18 : decode b_Reader_readName 18 = .ok (.iconst 0, 1) := by decide +kernel
theorem d_Reader_readName_19 : decode b_Reader_readName 19 = .ok (.ireturn, 1) := by decide +kernel
theorem d_Reader_readName_20 : decode b_Reader_readName 20 = .ok (.aload_n 0, 1) := by decide +kernel
theorem d_Reader_readName_21 : decode b_Reader_readName 21 = .ok (.getfield 27, 3) := by decide +kernel
theorem d_Reader_readName_24 : decode b_Reader_readName 24 = .ok (.bipush 100, 2) := by decide +kernel
theorem d_Reader_readName_26 : decode b_Reader_readName 26 = .ok (.if_icmp .ge 10, 3) := by decide +kernel
theorem d_Reader_readName_29 : decode b_Reader_readName 29 = .ok (.aload_n 0, 1) := by decide +kernel
theorem d_Reader_readName_30 : decode b_Reader_readName 30 = .ok (.invokevirtual 107, 3) := by decide +kernel
theorem d_Reader_readName_33 : decode b_Reader_readName 33 = .ok (.ifCond .eq 12, 3) := by decide +kernel
theorem d_Reader_readName_36 : decode b_Reader_readName 36 = .ok (.aload_n 0, 1) := by decide +kernel
theorem d_Reader_readName_37 : decode b_Reader_readName 37 = .ok (.aload_n 0, 1) := by decide +kernel
theorem d_Reader_readName_38 : decode b_Reader_readName 38 = .ok (.getfield 43, 3) := by decide +kernel
theorem d_Reader_readName_41 : decode b_Reader_readName 41 = .ok (.invokevirtual 68, 3) := by decide +kernel
theorem d_Reader_readName_44 : decode b_Reader_readName 44 = .ok (.ireturn, 1) := by decide +kernel
theorem d_Reader_readName_45 : decode b_Reader_readName 45 = .ok (.aload_n 0, 1) := by decide +kernel
theorem d_Reader_readName_46 : decode b_Reader_readName 46 = .ok (.getfield 13, 3) := by decide +kernel
theorem d_Reader_readName_49 : decode b_Reader_readName 49 = .ok (.aload_n 0, 1) := by decide +kernel
theorem d_Reader_readName_50 : decode b_Reader_readName 50 = .ok (.getfield 27, 3) := by decide +kernel
theorem d_Reader_readName_53 : decode b_Reader_readName 53 = .ok (.aload_n 0, 1) := by decide +kernel
theorem d_Reader_readName_54 : decode b_Reader_readName 54 = .ok (.getfield 43, 3) := by decide +kernel
theorem d_Reader_readName_57 : decode b_Reader_readName 57 = .ok (.iastore, 1) := by decide +kernel
theorem d_Reader_readName_58 : decode b_Reader_readName 58 = .ok (.aload_n 0, 1) := by decide +kernel
theorem d_Reader_readName_59 : decode b_Reader_readName 59 = .ok (.getfield 17, 3) := by decide +kernel
theorem d_Reader_readName_62 : decode b_Reader_readName 62 = .ok (.aload_n 0, 1) := by decide +kernel
theorem d_Reader_readName_63 : decode b_Reader_readName 63 = .ok (.getfield 27, 3) := by decide +kernel
theorem d_Reader_readName_66 : decode b_Reader_readName 66 = .ok (.aload_n 0, 1) := by decide +kernel
theorem d_Reader_readName_67 : decode b_Reader_readName 67 = .ok (.getfield 46, 3) := by decide +kernel
theorem d_Reader_readName_70 : decode b_Reader_readName 70 = .ok (.iastore, 1) := by decide +kernel
theorem d_Reader_readName_71 : decode b_Reader_readName 71 = .ok (.aload_n 0, 1) := by decide +kernel
theorem d_Reader_readName_72 : decode b_Reader_readName 72 = .ok (.dup, 1) := by decide +kernel
theorem d_Reader_readName_73 : decode b_Reader_readName 73 = .ok (.getfield 27, 3) := by decide +kernel
theorem d_Reader_readName_76 : decode b_Reader_readName 76 = .ok (.iconst 1, 1) := by decide +kernel
theorem d_Reader_readName_77 : decode b_Reader_readName 77 = .ok (.iadd, 1) := by decide +kernel
theorem d_Reader_readName_78 : decode b_Reader_readName 78 = .ok (.putfield 27, 3) := by decide +kernel
theorem d_Reader_readName_81 : decode b_Reader_readName 81 = .ok (.iconst 1, 1) := by decide +kernel
theorem d_Reader_readName_82 : decode b_Reader_readName 82 = .ok (.ireturn, 1) := by decide +kernel
theorem d_Reader_takeLetters_0 : decode b_Reader_takeLetters 0 = .ok (.aload_n 0, 1) := by decide +kernel
theorem d_Reader_takeLetters_1 : decode b_Reader_takeLetters 1 = .ok (.aload_n 0, 1) := by decide +kernel
theorem d_Reader_takeLetters_2 : decode b_Reader_takeLetters 2 = .ok (.getfield 34, 3) := by decide +kernel
theorem d_Reader_takeLetters_5 : decode b_Reader_takeLetters 5 = .ok (.putfield 43, 3) := by decide +kernel
theorem d_Reader_takeLetters_8 : decode b_Reader_takeLetters 8 = .ok (.iconst 0, 1) := by decide +kernel
theorem d_Reader_takeLetters_9 : decode b_Reader_takeLetters 9 = .ok (.istore_n 2, 1) := by decide +kernel
theorem d_Reader_takeLetters_10 : decode b_Reader_takeLetters 10 = .ok (.iload_n 2, 1) := by decide +kernel
theorem d_Reader_takeLetters_11 : decode b_Reader_takeLetters 11 = .ok (.iload_n 1, 1) := by decide +kernel
theorem d_Reader_takeLetters_12 : decode b_Reader_takeLetters 12 = .ok (.if_icmp .gt 29, 3) := by decide +kernel
theorem d_Reader_takeLetters_15 : decode b_Reader_takeLetters 15 = .ok (.aload_n 0, 1) := by decide +kernel
theorem d_Reader_takeLetters_16 : decode b_Reader_takeLetters 16 = .ok (.invokevirtual 64, 3) := by decide +kernel
theorem d_Reader_takeLetters_19 : decode b_Reader_takeLetters 19 = .ok (.invokestatic 196, 3) := by decide +kernel
theorem d_Reader_takeLetters_22 : decode b_Reader_takeLetters 22 = .ok (.ifCond .eq 19, 3) := by decide +kernel
theorem d_Reader_takeLetters_25 : decode b_Reader_takeLetters 25 = .ok (.aload_n 0, 1) := by decide +kernel
theorem d_Reader_takeLetters_26 : decode b_Reader_takeLetters 26 = .ok (.dup, 1) := by decide +kernel
theorem d_Reader_takeLetters_27 : decode b_Reader_takeLetters 27 = .ok (.getfield 34, 3) := by decide +kernel
theorem d_Reader_takeLetters_30 : decode b_Reader_takeLetters 30 = .ok (.iconst 1, 1) := by decide +kernel
theorem d_Reader_takeLetters_31 : decode b_Reader_takeLetters 31 = .ok (.iadd, 1) := by decide +kernel
theorem d_Reader_takeLetters_32 : decode b_Reader_takeLetters 32 = .ok (.putfield 34, 3) := by decide +kernel
theorem d_Reader_takeLetters_35 : decode b_Reader_takeLetters 35 = .ok (.iinc 2 1, 3) := by decide +kernel
theorem d_Reader_takeLetters_38 : decode b_Reader_takeLetters 38 = .ok (.goto (-28), 3) := by decide +kernel
theorem d_Reader_takeLetters_41 : decode b_Reader_takeLetters 41 = .ok (.aload_n 0, 1) := by decide +kernel
theorem d_Reader_takeLetters_42 : decode b_Reader_takeLetters 42 = .ok (.aload_n 0, 1) := by decide +kernel
theorem d_Reader_takeLetters_43 : decode b_Reader_takeLetters 43 = .ok (.getfield 34, 3) := by decide +kernel
theorem d_Reader_takeLetters_46 : decode b_Reader_takeLetters 46 = .ok (.putfield 46, 3) := by decide +kernel
theorem d_Reader_takeLetters_49 : decode b_Reader_takeLetters 49 = .ok (.aload_n 0, 1) := by decide +kernel
theorem d_Reader_takeLetters_50 : decode b_Reader_takeLetters 50 = .ok (.getfield 46, 3) := by decide +kernel
theorem d_Reader_takeLetters_53 : decode b_Reader_takeLetters 53 = .ok (.aload_n 0, 1) := by decide +kernel
theorem d_Reader_takeLetters_54 : decode b_Reader_takeLetters 54 = .ok (.getfield 43, 3) := by decide +kernel
theorem d_Reader_takeLetters_57 : decode b_Reader_takeLetters 57 = .ok (.if_icmp .ne 12, 3) := by decide +kernel
theorem d_Reader_takeLetters_60 : decode b_Reader_takeLetters 60 = .ok (.aload_n 0, 1) := by decide +kernel
theorem d_Reader_takeLetters_61 : decode b_Reader_takeLetters 61 = .ok (.aload_n 0, 1) := by decide +kernel
theorem d_Reader_takeLetters_62 : decode b_Reader_takeLetters 62 = .ok (.getfield 34, 3) := by decide +kernel
theorem d_Reader_takeLetters_65 : decode b_Reader_takeLetters 65 = .ok (.invokevirtual 68, 3) := by decide +kernel
theorem d_Reader_takeLetters_68 : decode b_Reader_takeLetters 68 = .ok (.ireturn, 1) := by decide +kernel
theorem d_Reader_takeLetters_69 : decode b_Reader_takeLetters 69 = .ok (.aload_n 0, 1) := by decide +kernel
theorem d_Reader_takeLetters_70 : decode b_Reader_takeLetters 70 = .ok (.getfield 46, 3) := by decide +kernel
theorem d_Reader_takeLetters_73 : decode b_Reader_takeLetters 73 = .ok (.aload_n 0, 1) := by decide +kernel
theorem d_Reader_takeLetters_74 : decode b_Reader_takeLetters 74 = .ok (.getfield 43, 3) := by decide +kernel
theorem d_Reader_takeLetters_77 : decode b_Reader_takeLetters 77 = .ok (.isub, 1) := by decide +kernel
theorem d_Reader_takeLetters_78 : decode b_Reader_takeLetters 78 = .ok (.iload_n 1, 1) := by decide +kernel
theorem d_Reader_takeLetters_79 : decode b_Reader_takeLetters 79 = .ok (.if_icmp .le 14, 3) := by decide +kernel
theorem d_Reader_takeLetters_82 : decode b_Reader_takeLetters 82 = .ok (.aload_n 0, 1) := by decide +kernel
theorem d_Reader_takeLetters_83 : decode b_Reader_takeLetters 83 = .ok (.aload_n 0, 1) := by decide +kernel
theorem d_Reader_takeLetters_84 : decode b_Reader_takeLetters 84 = .ok (.getfield 43, 3) := by decide +kernel
theorem d_Reader_takeLetters_87 : decode b_Reader_takeLetters 87 = .ok (.invokevirtual 68, 3) := by decide +kernel
theorem d_Reader_takeLetters_90 : decode b_Reader_takeLetters 90 = .ok (.ifCond .eq 7, 3) := by decide +kernel
theorem d_Reader_takeLetters_93 : decode b_Reader_takeLetters 93 = .ok (.iconst 1, 1) := by decide +kernel
theorem d_Reader_takeLetters_94 : decode b_Reader_takeLetters 94 = .ok (.goto 4, 3) := by decide +kernel
theorem d_Reader_takeLetters_97 : decode b_Reader_takeLetters 97 = .ok (.iconst 0, 1) := by decide +kernel
theorem d_Reader_takeLetters_98 : decode b_Reader_takeLetters 98 = .ok (.ireturn, 1) := by decide +kernel
theorem d_Reader_isLetter_0 : decode b_Reader_isLetter 0 = .ok (.iload_n 0, 1) := by decide +kernel
theorem d_Reader_isLetter_1 : decode b_Reader_isLetter 1 = .ok (.bipush 97, 2) := by decide +kernel
theorem d_Reader_isLetter_3 : decode b_Reader_isLetter 3 = .ok (.if_icmp .lt 9, 3) := by decide +kernel
theorem d_Reader_isLetter_6 : decode b_Reader_isLetter 6 = .ok (.iload_n 0, 1) := by decide +kernel
theorem d_Reader_isLetter_7 : decode b_Reader_isLetter 7 = .ok (.bipush 122, 2) := by decide +kernel
theorem d_Reader_isLetter_9 : decode b_Reader_isLetter 9 = .ok (.if_icmp .le 9, 3) := by decide +kernel
theorem d_Reader_isLetter_12 : decode b_Reader_isLetter 12 = .ok (.iload_n 0, 1) := by decide +kernel
theorem d_Reader_isLetter_13 : decode b_Reader_isLetter 13 = .ok (.bipush 45, 2) := by decide +kernel
theorem d_Reader_isLetter_15 : decode b_Reader_isLetter 15 = .ok (.if_icmp .ne 7, 3) := by decide +kernel
theorem d_Reader_isLetter_18 : decode b_Reader_isLetter 18 = .ok (.iconst 1, 1) := by decide +kernel
theorem d_Reader_isLetter_19 : decode b_Reader_isLetter 19 = .ok (.goto 4, 3) := by decide +kernel
theorem d_Reader_isLetter_22 : decode b_Reader_isLetter 22 = .ok (.iconst 0, 1) := by decide +kernel
theorem d_Reader_isLetter_23 : decode b_Reader_isLetter 23 = .ok (.ireturn, 1) := by decide +kernel
theorem d_Reader_wasThere_0 : decode b_Reader_wasThere 0 = .ok (.iconst 0, 1) := by decide +kernel
theorem d_Reader_wasThere_1 : decode b_Reader_wasThere 1 = .ok (.istore_n 1, 1) := by decide +kernel
theorem d_Reader_wasThere_2 : decode b_Reader_wasThere 2 = .ok (.iload_n 1, 1) := by decide +kernel
theorem d_Reader_wasThere_3 : decode b_Reader_wasThere 3 = .ok (.aload_n 0, 1) := by decide +kernel
theorem d_Reader_wasThere_4 : decode b_Reader_wasThere 4 = .ok (.getfield 27, 3) := by decide +kernel
theorem d_Reader_wasThere_7 : decode b_Reader_wasThere 7 = .ok (.if_icmp .ge 36, 3) := by decide +kernel
theorem d_Reader_wasThere_10 : decode b_Reader_wasThere 10 = .ok (.iload_n 1, 1) := by decide +kernel
theorem d_Reader_wasThere_11 : decode b_Reader_wasThere 11 = .ok (.bipush 100, 2) := by decide +kernel
theorem d_Reader_wasThere_13 : decode b_Reader_wasThere 13 = .ok (.if_icmp .ge 30, 3) := by decide +kernel
theorem d_Reader_wasThere_16 : decode b_Reader_wasThere 16 = .ok (.aload_n 0, 1) := by decide +kernel
theorem d_Reader_wasThere_17 : decode b_Reader_wasThere 17 = .ok (.aload_n 0, 1) := by decide +kernel
theorem d_Reader_wasThere_18 : decode b_Reader_wasThere 18 = .ok (.getfield 13, 3) := by decide +kernel
theorem d_Reader_wasThere_21 : decode b_Reader_wasThere 21 = .ok (.iload_n 1, 1) := by decide +kernel
theorem d_Reader_wasThere_22 : decode b_Reader_wasThere 22 = .ok (.iaload, 1) := by decide +kernel
theorem d_Reader_wasThere_23 : decode b_Reader_wasThere 23 = .ok (.aload_n 0, 1) := by decide +kernel
theorem d_Reader_wasThere_24 : decode b_Reader_wasThere 24 = .ok (.getfield 17, 3) := by decide +kernel
theorem d_Reader_wasThere_27 : decode b_Reader_wasThere 27 = .ok (.iload_n 1, 1) := by decide +kernel
theorem d_Reader_wasThere_28 : decode b_Reader_wasThere 28 = .ok (.iaload, 1) := by decide +kernel
theorem d_Reader_wasThere_29 : decode b_Reader_wasThere 29 = .ok (.invokevirtual 110, 3) := by decide +kernel
theorem d_Reader_wasThere_32 : decode b_Reader_wasThere 32 = .ok (.ifCond .eq 5, 3) := by decide +kernel
theorem d_Reader_wasThere_35 : decode b_Reader_wasThere 35 = .ok (.iconst 1, 1) := by decide +kernel
theorem d_Reader_wasThere_36 : decode b_Reader_wasThere 36 = .ok (.ireturn, 1) := by decide +kernel
theorem d_Reader_wasThere_37 : decode b_Reader_wasThere 37 = .ok (.iinc 1 1, 3) := by decide +kernel
theorem d_Reader_wasThere_40 : decode b_Reader_wasThere 40 = .ok (.goto (-38), 3) := by decide +kernel
theorem d_Reader_wasThere_43 : decode b_Reader_wasThere 43 = .ok (.iconst 0, 1) := by decide +kernel
theorem d_Reader_wasThere_44 : decode b_Reader_wasThere 44 = .ok (.ireturn, 1) := by decide +kernel
theorem d_Reader_isWordFrom_0 : decode b_Reader_isWordFrom 0 = .ok (.aload_n 0, 1) := by decide +kernel
theorem d_Reader_isWordFrom_1 : decode b_Reader_isWordFrom 1 = .ok (.getfield 46, 3) := by decide +kernel
theorem d_Reader_isWordFrom_4 : decode b_Reader_isWordFrom 4 = .ok (.aload_n 0, 1) := by decide +kernel
theorem d_Reader_isWordFrom_5 : decode b_Reader_isWordFrom 5 = .ok (.getfield 43, 3) := by decide +kernel
theorem d_Reader_isWordFrom_8 : decode b_Reader_isWordFrom 8 = .ok (.isub, 1) := by decide +kernel
theorem d_Reader_isWordFrom_9 : decode b_Reader_isWordFrom 9 = .ok (.iload_n 2, 1) := by decide +kernel
theorem d_Reader_isWordFrom_10 : decode b_Reader_isWordFrom 10 = .ok (.iload_n 1, 1) := by decide +kernel
theorem d_Reader_isWordFrom_11 : decode b_Reader_isWordFrom 11 = .ok (.isub, 1) := by decide +kernel
theorem d_Reader_isWordFrom_12 : decode b_Reader_isWordFrom 12 = .ok (.if_icmp .eq 5, 3) := by decide +kernel
theorem d_Reader_isWordFrom_15 : decode b_Reader_isWordFrom 15 = .ok (.iconst 0, 1) := by decide +kernel
theorem d_Reader_isWordFrom_16 : decode b_Reader_isWordFrom 16 = .ok (.ireturn, 1) := by decide +kernel
theorem d_Reader_isWordFrom_17 : decode b_Reader_isWordFrom 17 = .ok (.iconst 0, 1) := by decide +kernel
theorem d_Reader_isWordFrom_18 : decode b_Reader_isWordFrom 18 = .ok (.istore_n 3, 1) := by decide +kernel
theorem d_Reader_isWordFrom_19 : decode b_Reader_isWordFrom 19 = .ok (.iload_n 3, 1) := by decide +kernel
theorem d_Reader_isWordFrom_20 : decode b_Reader_isWordFrom 20 = .ok (.iload_n 2, 1) := by decide +kernel
theorem d_Reader_isWordFrom_21 : decode b_Reader_isWordFrom 21 = .ok (.iload_n 1, 1) := by decide +kernel
theorem d_Reader_isWordFrom_22 : decode b_Reader_isWordFrom 22 = .ok (.isub, 1) := by decide +kernel
theorem d_Reader_isWordFrom_23 : decode b_Reader_isWordFrom 23 = .ok (.if_icmp .ge 37, 3) := by decide +kernel
theorem d_Reader_isWordFrom_26 : decode b_Reader_isWordFrom 26 = .ok (.aload_n 0, 1) := by decide +kernel
theorem d_Reader_isWordFrom_27 : decode b_Reader_isWordFrom 27 = .ok (.getfield 49, 3) := by decide +kernel
theorem d_Reader_isWordFrom_30 : decode b_Reader_isWordFrom 30 = .ok (.aload_n 0, 1) := by decide +kernel
theorem d_Reader_isWordFrom_31 : decode b_Reader_isWordFrom 31 = .ok (.getfield 43, 3) := by decide +kernel
theorem d_Reader_isWordFrom_34 : decode b_Reader_isWordFrom 34 = .ok (.iload_n 3, 1) := by decide +kernel
theorem d_Reader_isWordFrom_35 : decode b_Reader_isWordFrom 35 = .ok (.iadd, 1) := by decide +kernel
theorem d_Reader_isWordFrom_36 : decode b_Reader_isWordFrom 36 = .ok (.invokevirtual 184, 3) := by decide +kernel
theorem d_Reader_isWordFrom_39 : decode b_Reader_isWordFrom 39 = .ok (.aload_n 0, 1) := by decide +kernel
theorem d_Reader_isWordFrom_40 : decode b_Reader_isWordFrom 40 = .ok (.getfield 49, 3) := by decide +kernel
theorem d_Reader_isWordFrom_43 : decode b_Reader_isWordFrom 43 = .ok (.iload_n 1, 1) := by decide +kernel
theorem d_Reader_isWordFrom_44 : decode b_Reader_isWordFrom 44 = .ok (.iload_n 3, 1) := by decide +kernel
theorem d_Reader_isWordFrom_45 : decode b_Reader_isWordFrom 45 = .ok (.iadd, 1) := by decide +kernel
theorem d_Reader_isWordFrom_46 : decode b_Reader_isWordFrom 46 = .ok (.invokevirtual 184, 3) := by decide +kernel
theorem d_Reader_isWordFrom_49 : decode b_Reader_isWordFrom 49 = .ok (.if_icmp .eq 5, 3) := by decide +kernel
theorem d_Reader_isWordFrom_52 : decode b_Reader_isWordFrom 52 = .ok (.iconst 0, 1) := by decide +kernel
theorem d_Reader_isWordFrom_53 : decode b_Reader_isWordFrom 53 = .ok (.ireturn, 1) := by decide +kernel
theorem d_Reader_isWordFrom_54 : decode b_Reader_isWordFrom 54 = .ok (.iinc 3 1, 3) := by decide +kernel
theorem d_Reader_isWordFrom_57 : decode b_Reader_isWordFrom 57 = .ok (.goto (-38), 3) := by decide +kernel
theorem d_Reader_isWordFrom_60 : decode b_Reader_isWordFrom 60 = .ok (.iconst 1, 1) := by decide +kernel
theorem d_Reader_isWordFrom_61 : decode b_Reader_isWordFrom 61 = .ok (.ireturn, 1) := by decide +kernel
theorem d_Reader_readValue_0 : decode b_Reader_readValue 0 = .ok (.aload_n 0, 1) := by decide +kernel
theorem d_Reader_readValue_1 : decode b_Reader_readValue 1 = .ok (.bipush 32, 2) := by decide +kernel
theorem d_Reader_readValue_3 : decode b_Reader_readValue 3 = .ok (.invokevirtual 60, 3) := by decide +kernel
theorem d_Reader_readValue_6 : decode b_Reader_readValue 6 = .ok (.pop, 1) := by decide +kernel
theorem d_Reader_readValue_7 : decode b_Reader_readValue 7 = .ok (.aload_n 0, 1) := by decide +kernel
theorem d_Reader_readValue_8 : decode b_Reader_readValue 8 = .ok (.ldc 114, 2) := by decide +kernel
theorem d_Reader_readValue_10 : decode b_Reader_readValue 10 = .ok (.invokevirtual 116, 3) := by decide +kernel
theorem d_Reader_readValue_13 : decode b_Reader_readValue 13 = .ok (.ifCond .eq 8, 3) := by decide +kernel
theorem d_Reader_readValue_16 : decode b_Reader_readValue 16 = .ok (.aload_n 0, 1) := by decide +kernel
theorem d_Reader_readValue_17 : decode b_Reader_readValue 17 = .ok (.invokevirtual 119, 3) := by decide +kernel
theorem d_Reader_readValue_20 : decode b_Reader_readValue 20 = .ok (.ireturn, 1) := by decide +kernel
theorem d_Reader_readValue_21 : decode b_Reader_readValue 21 = .ok (.aload_n 0, 1) := by decide +kernel
theorem d_Reader_readValue_22 : decode b_Reader_readValue 22 = .ok (.getfield 31, 3) := by decide +kernel
theorem d_Reader_readValue_25 : decode b_Reader_readValue 25 = .ok (.ifCond .ne 17, 3) := by decide +kernel
theorem d_Reader_readValue_28 : decode b_Reader_readValue 28 = .ok (.aload_n 0, 1) := by decide +kernel
theorem d_Reader_readValue_29 : decode b_Reader_readValue 29 = .ok (.ldc 122, 2) := by decide +kernel
theorem d_Reader_readValue_31 : decode b_Reader_readValue 31 = .ok (.invokevirtual 116, 3) := by decide +kernel
theorem d_Reader_readValue_34 : decode b_Reader_readValue 34 = .ok (.ifCond .eq 8, 3) := by decide +kernel
theorem d_Reader_readValue_37 : decode b_Reader_readValue 37 = .ok (.aload_n 0, 1) := by decide +kernel
theorem d_Reader_readValue_38 : decode b_Reader_readValue 38 = .ok (.invokevirtual 124, 3) := by decide +kernel
theorem d_Reader_readValue_41 : decode b_Reader_readValue 41 = .ok (.ireturn, 1) := by decide +kernel
theorem d_Reader_readValue_42 : decode b_Reader_readValue 42 = .ok (.aload_n 0, 1) := by decide +kernel
theorem d_Reader_readValue_43 : decode b_Reader_readValue 43 = .ok (.getfield 31, 3) := by decide +kernel
theorem d_Reader_readValue_46 : decode b_Reader_readValue 46 = .ok (.ifCond .ne 17, 3) := by decide +kernel
theorem d_Reader_readValue_49 : decode b_Reader_readValue 49 = .ok (.aload_n 0, 1) := by decide +kernel
theorem d_Reader_readValue_50 : decode b_Reader_readValue 50 = .ok (.ldc 127, 2) := by decide +kernel
theorem d_Reader_readValue_52 : decode b_Reader_readValue 52 = .ok (.invokevirtual 116, 3) := by decide +kernel
theorem d_Reader_readValue_55 : decode b_Reader_readValue 55 = .ok (.ifCond .eq 8, 3) := by decide +kernel
theorem d_Reader_readValue_58 : decode b_Reader_readValue 58 = .ok (.aload_n 0, 1) := by decide +kernel
theorem d_Reader_readValue_59 : decode b_Reader_readValue 59 = .ok (.invokevirtual 129, 3) := by decide +kernel
theorem d_Reader_readValue_62 : decode b_Reader_readValue 62 = .ok (.ireturn, 1) := by decide +kernel
theorem d_Reader_readValue_63 : decode b_Reader_readValue 63 = .ok (.aload_n 0, 1) := by decide +kernel
theorem d_Reader_readValue_64 : decode b_Reader_readValue 64 = .ok (.getfield 31, 3) := by decide +kernel
theorem d_Reader_readValue_67 : decode b_Reader_readValue 67 = .ok (.iconst 1, 1) := by decide +kernel
theorem d_Reader_readValue_68 : decode b_Reader_readValue 68 = .ok (.if_icmp .ne 17, 3) := by decide +kernel
theorem d_Reader_readValue_71 : decode b_Reader_readValue 71 = .ok (.aload_n 0, 1) := by decide +kernel
theorem d_Reader_readValue_72 : decode b_Reader_readValue 72 = .ok (.ldc 132, 2) := by decide +kernel
theorem d_Reader_readValue_74 : decode b_Reader_readValue 74 = .ok (.invokevirtual 116, 3) := by decide +kernel
theorem d_Reader_readValue_77 : decode b_Reader_readValue 77 = .ok (.ifCond .eq 8, 3) := by decide +kernel
theorem d_Reader_readValue_80 : decode b_Reader_readValue 80 = .ok (.aload_n 0, 1) := by decide +kernel
theorem d_Reader_readValue_81 : decode b_Reader_readValue 81 = .ok (.invokevirtual 134, 3) := by decide +kernel
theorem d_Reader_readValue_84 : decode b_Reader_readValue 84 = .ok (.ireturn, 1) := by decide +kernel
theorem d_Reader_readValue_85 : decode b_Reader_readValue 85 = .ok (.aload_n 0, 1) := by decide +kernel
theorem d_Reader_readValue_86 : decode b_Reader_readValue 86 = .ok (.getfield 31, 3) := by decide +kernel
theorem d_Reader_readValue_89 : decode b_Reader_readValue 89 = .ok (.iconst 1, 1) := by decide +kernel
theorem d_Reader_readValue_90 : decode b_Reader_readValue 90 = .ok (.if_icmp .ne 17, 3) := by decide +kernel
theorem d_Reader_readValue_93 : decode b_Reader_readValue 93 = .ok (.aload_n 0, 1) := by decide +kernel
theorem d_Reader_readValue_94 : decode b_Reader_readValue 94 = .ok (.ldc 137, 2) := by decide +kernel
theorem d_Reader_readValue_96 : decode b_Reader_readValue 96 = .ok (.invokevirtual 116, 3) := by decide +kernel
theorem d_Reader_readValue_99 : decode b_Reader_readValue 99 = .ok (.ifCond .eq 8, 3) := by decide +kernel
theorem d_Reader_readValue_102 : decode b_Reader_readValue 102 = .ok (.aload_n 0, 1) := by decide +kernel
theorem d_Reader_readValue_103 : decode b_Reader_readValue 103 = .ok (.invokevirtual 139, 3) := by decide +kernel
theorem d_Reader_readValue_106 : decode b_Reader_readValue 106 = .ok (.ireturn, 1) := by decide +kernel
theorem d_Reader_readValue_107 : decode b_Reader_readValue 107 = .ok (.aload_n 0, 1) := by decide +kernel
theorem d_Reader_readValue_108 : decode b_Reader_readValue 108 = .ok (.invokevirtual 142, 3) := by decide +kernel
theorem d_Reader_readValue_111 : decode b_Reader_readValue 111 = .ok (.ireturn, 1) := by decide +kernel
theorem d_Reader_isWord_0 : decode b_Reader_isWord 0 = .ok (.aload_n 0, 1) := by decide +kernel
theorem d_Reader_isWord_1 : decode b_Reader_isWord 1 = .ok (.getfield 46, 3) := by decide +kernel
theorem d_Reader_isWord_4 : decode b_Reader_isWord 4 = .ok (.aload_n 0, 1) := by decide +kernel
theorem d_Reader_isWord_5 : decode b_Reader_isWord 5 = .ok (.getfield 43, 3) := by decide +kernel
theorem d_Reader_isWord_8 : decode b_Reader_isWord 8 = .ok (.isub, 1) := by decide +kernel
theorem d_Reader_isWord_9 : decode b_Reader_isWord 9 = .ok (.aload_n 1, 1) := by decide +kernel
theorem d_Reader_isWord_10 : decode b_Reader_isWord 10 = .ok (.invokevirtual 188, 3) := by decide +kernel
theorem d_Reader_isWord_13 : decode b_Reader_isWord 13 = .ok (.if_icmp .eq 5, 3) := by decide +kernel
theorem d_Reader_isWord_16 : decode b_Reader_isWord 16 = .ok (.iconst 0, 1) := by decide +kernel
theorem d_Reader_isWord_17 : decode b_Reader_isWord 17 = .ok (.ireturn, 1) := by decide +kernel
theorem d_Reader_isWord_18 : decode b_Reader_isWord 18 = .ok (.iconst 0, 1) := by decide +kernel
theorem d_Reader_isWord_19 : decode b_Reader_isWord 19 = .ok (.istore_n 2, 1) := by decide +kernel
theorem d_Reader_isWord_20 : decode b_Reader_isWord 20 = .ok (.iload_n 2, 1) := by decide +kernel
theorem d_Reader_isWord_21 : decode b_Reader_isWord 21 = .ok (.aload_n 1, 1) := by decide +kernel
theorem d_Reader_isWord_22 : decode b_Reader_isWord 22 = .ok (.invokevirtual 188, 3) := by decide +kernel
theorem d_Reader_isWord_25 : decode b_Reader_isWord 25 = .ok (.if_icmp .ge 32, 3) := by decide +kernel
theorem d_Reader_isWord_28 : decode b_Reader_isWord 28 = .ok (.aload_n 0, 1) := by decide +kernel
theorem d_Reader_isWord_29 : decode b_Reader_isWord 29 = .ok (.getfield 49, 3) := by decide +kernel
theorem d_Reader_isWord_32 : decode b_Reader_isWord 32 = .ok (.aload_n 0, 1) := by decide +kernel
theorem d_Reader_isWord_33 : decode b_Reader_isWord 33 = .ok (.getfield 43, 3) := by decide +kernel
theorem d_Reader_isWord_36 : decode b_Reader_isWord 36 = .ok (.iload_n 2, 1) := by decide +kernel
theorem d_Reader_isWord_37 : decode b_Reader_isWord 37 = .ok (.iadd, 1) := by decide +kernel
theorem d_Reader_isWord_38 : decode b_Reader_isWord 38 = .ok (.invokevirtual 184, 3) := by decide +kernel
theorem d_Reader_isWord_41 : decode b_Reader_isWord 41 = .ok (.aload_n 1, 1) := by decide +kernel
theorem d_Reader_isWord_42 : decode b_Reader_isWord 42 = .ok (.iload_n 2, 1) := by decide +kernel
theorem d_Reader_isWord_43 : decode b_Reader_isWord 43 = .ok (.invokevirtual 192, 3) := by decide +kernel
theorem d_Reader_isWord_46 : decode b_Reader_isWord 46 = .ok (.if_icmp .eq 5, 3) := by decide +kernel
theorem d_Reader_isWord_49 : decode b_Reader_isWord 49 = .ok (.iconst 0, 1) := by decide +kernel
theorem d_Reader_isWord_50 : decode b_Reader_isWord 50 = .ok (.ireturn, 1) := by decide +kernel
theorem d_Reader_isWord_51 : decode b_Reader_isWord 51 = .ok (.iinc 2 1, 3) := by decide +kernel
theorem d_Reader_isWord_54 : decode b_Reader_isWord 54 = .ok (.goto (-34), 3) := by decide +kernel
theorem d_Reader_isWord_57 : decode b_Reader_isWord 57 = .ok (.iconst 1, 1) := by decide +kernel
theorem d_Reader_isWord_58 : decode b_Reader_isWord 58 = .ok (.ireturn, 1) := by decide +kernel
theorem d_Reader_readList_0 : decode b_Reader_readList 0 = .ok (.iconst 0, 1) := by decide +kernel
theorem d_Reader_readList_1 : decode b_Reader_readList 1 = .ok (.istore_n 1, 1) := by decide +kernel
theorem d_Reader_readList_2 : decode b_Reader_readList 2 = .ok (.iload_n 1, 1) := by decide +kernel
theorem d_Reader_readList_3 : decode b_Reader_readList 3 = .ok (.sipush 300, 3) := by decide +kernel
theorem d_Reader_readList_6 : decode b_Reader_readList 6 = .ok (.if_icmp .ge 76, 3) := by decide +kernel
theorem d_Reader_readList_9 : decode b_Reader_readList 9 = .ok (.aload_n 0, 1) := by decide +kernel
theorem d_Reader_readList_10 : decode b_Reader_readList 10 = .ok (.bipush 30, 2) := by decide +kernel
theorem d_Reader_readList_12 : decode b_Reader_readList 12 = .ok (.invokevirtual 104, 3) := by decide +kernel
theorem d_Reader_readList_15 : decode b_Reader_readList 15 = .ok (.ifCond .ne 5, 3) := by decide +kernel
theorem d_Reader_readList_18 : decode b_Reader_readList 18 = .ok (.iconst 0, 1) := by decide +kernel
theorem d_Reader_readList_19 : decode b_Reader_readList 19 = .ok (.ireturn, 1) := by decide +kernel
theorem d_Reader_readList_20 : decode b_Reader_readList 20 = .ok (.aload_n 0, 1) := by decide +kernel
theorem d_Reader_readList_21 : decode b_Reader_readList 21 = .ok (.bipush 61, 2) := by decide +kernel
theorem d_Reader_readList_23 : decode b_Reader_readList 23 = .ok (.invokevirtual 60, 3) := by decide +kernel
theorem d_Reader_readList_26 : decode b_Reader_readList 26 = .ok (.ifCond .ne 10, 3) := by decide +kernel
theorem d_Reader_readList_29 : decode b_Reader_readList 29 = .ok (.aload_n 0, 1) := by decide +kernel
theorem d_Reader_readList_30 : decode b_Reader_readList 30 = .ok (.invokevirtual 162, 3) := by decide +kernel
theorem d_Reader_readList_33 : decode b_Reader_readList 33 = .ok (.goto 21, 3) := by decide +kernel
theorem d_Reader_readList_36 : decode b_Reader_readList 36 = .ok (.aload_n 0, 1) := by decide +kernel
theorem d_Reader_readList_37 : decode b_Reader_readList 37 = .ok (.ldc 147, 2) := by decide +kernel
theorem d_Reader_readList_39 : decode b_Reader_readList 39 = .ok (.invokevirtual 101, 3) := by decide +kernel
theorem d_Reader_readList_42 : decode b_Reader_readList 42 = .ok (.ifCond .eq 10, 3) := by decide +kernel
theorem d_Reader_readList_45 : decode b_Reader_readList 45 = .ok (.aload_n 0, 1) := by decide +kernel
theorem d_Reader_readList_46 : decode b_Reader_readList 46 = .ok (.invokevirtual 165, 3) := by decide +kernel
theorem d_Reader_readList_49 : decode b_Reader_readList 49 = .ok (.goto 5, 3) := by decide +kernel
theorem d_Reader_readList_52 : decode b_Reader_readList 52 = .ok (.iconst 0, 1) := by decide +kernel
theorem d_Reader_readList_53 : decode b_Reader_readList 53 = .ok (.ireturn, 1) := by decide +kernel
theorem d_Reader_readList_54 : decode b_Reader_readList 54 = .ok (.aload_n 0, 1) := by decide +kernel
theorem d_Reader_readList_55 : decode b_Reader_readList 55 = .ok (.bipush 44, 2) := by decide +kernel
theorem d_Reader_readList_57 : decode b_Reader_readList 57 = .ok (.invokevirtual 60, 3) := by decide +kernel
theorem d_Reader_readList_60 : decode b_Reader_readList 60 = .ok (.ifCond .ne 5, 3) := by decide +kernel
theorem d_Reader_readList_63 : decode b_Reader_readList 63 = .ok (.iconst 1, 1) := by decide +kernel
theorem d_Reader_readList_64 : decode b_Reader_readList 64 = .ok (.ireturn, 1) := by decide +kernel
theorem d_Reader_readList_65 : decode b_Reader_readList 65 = .ok (.aload_n 0, 1) := by decide +kernel
theorem d_Reader_readList_66 : decode b_Reader_readList 66 = .ok (.bipush 32, 2) := by decide +kernel
theorem d_Reader_readList_68 : decode b_Reader_readList 68 = .ok (.invokevirtual 78, 3) := by decide +kernel
theorem d_Reader_readList_71 : decode b_Reader_readList 71 = .ok (.ifCond .ne 5, 3) := by decide +kernel
theorem d_Reader_readList_74 : decode b_Reader_readList 74 = .ok (.iconst 0, 1) := by decide +kernel
theorem d_Reader_readList_75 : decode b_Reader_readList 75 = .ok (.ireturn, 1) := by decide +kernel
theorem d_Reader_readList_76 : decode b_Reader_readList 76 = .ok (.iinc 1 1, 3) := by decide +kernel
theorem d_Reader_readList_79 : decode b_Reader_readList 79 = .ok (.goto (-77), 3) := by decide +kernel
theorem d_Reader_readList_82 : decode b_Reader_readList 82 = .ok (.aload_n 0, 1) := by decide +kernel
theorem d_Reader_readList_83 : decode b_Reader_readList 83 = .ok (.aload_n 0, 1) := by decide +kernel
theorem d_Reader_readList_84 : decode b_Reader_readList 84 = .ok (.getfield 34, 3) := by decide +kernel
theorem d_Reader_readList_87 : decode b_Reader_readList 87 = .ok (.invokevirtual 68, 3) := by decide +kernel
theorem d_Reader_readList_90 : decode b_Reader_readList 90 = .ok (.ireturn, 1) := by decide +kernel
theorem d_Reader_countBare_0 : decode b_Reader_countBare 0 = .ok (.aload_n 0, 1) := by decide +kernel
theorem d_Reader_countBare_1 : decode b_Reader_countBare 1 = .ok (.ldc 168, 2) := by decide +kernel
theorem d_Reader_countBare_3 : decode b_Reader_countBare 3 = .ok (.invokevirtual 116, 3) := by decide +kernel
theorem d_Reader_countBare_6 : decode b_Reader_countBare 6 = .ok (.ifCond .eq 16, 3) := by decide +kernel
theorem d_Reader_countBare_9 : decode b_Reader_countBare 9 = .ok (.aload_n 0, 1) := by decide +kernel
theorem d_Reader_countBare_10 : decode b_Reader_countBare 10 = .ok (.getfield 23, 3) := by decide +kernel
theorem d_Reader_countBare_13 : decode b_Reader_countBare 13 = .ok (.bipush 10, 2) := by decide +kernel
theorem d_Reader_countBare_15 : decode b_Reader_countBare 15 = .ok (.iconst 1, 1) := by decide +kernel
theorem d_Reader_countBare_16 : decode b_Reader_countBare 16 = .ok (.invokevirtual 87, 3) := by decide +kernel
theorem d_Reader_countBare_19 : decode b_Reader_countBare 19 = .ok (.goto 75, 3) := by decide +kernel
theorem d_Reader_countBare_22 : decode b_Reader_countBare 22 = .ok (.aload_n 0, 1) := by decide +kernel
theorem d_Reader_countBare_23 : decode b_Reader_countBare 23 = .ok (.getfield 31, 3) := by decide +kernel
theorem d_Reader_countBare_26 : decode b_Reader_countBare 26 = .ok (.iconst 1, 1) := by decide +kernel
theorem d_Reader_countBare_27 : decode b_Reader_countBare 27 = .ok (.if_icmp .ne 25, 3) := by decide +kernel
theorem d_Reader_countBare_30 : decode b_Reader_countBare 30 = .ok (.aload_n 0, 1) := by decide +kernel
theorem d_Reader_countBare_31 : decode b_Reader_countBare 31 = .ok (.ldc 170, 2) := by decide +kernel
theorem d_Reader_countBare_33 : decode b_Reader_countBare 33 = .ok (.invokevirtual 116, 3) := by decide +kernel
theorem d_Reader_countBare_36 : decode b_Reader_countBare 36 = .ok (.ifCond .eq 58, 3) := by decide +kernel
theorem d_Reader_countBare_39 : decode b_Reader_countBare 39 = .ok (.aload_n 0, 1) := by decide +kernel
theorem d_Reader_countBare_40 : decode b_Reader_countBare 40 = .ok (.getfield 23, 3) := by decide +kernel
theorem d_Reader_countBare_43 : decode b_Reader_countBare 43 = .ok (.bipush 15, 2) := by decide +kernel
theorem d_Reader_countBare_45 : decode b_Reader_countBare 45 = .ok (.iconst 1, 1) := by decide +kernel
theorem d_Reader_countBare_46 : decode b_Reader_countBare 46 = .ok (.invokevirtual 87, 3) := by decide +kernel
theorem d_Reader_countBare_49 : decode b_Reader_countBare 49 = .ok (.goto 45, 3) := by decide +kernel
theorem d_Reader_countBare_52 : decode b_Reader_countBare 52 = .ok (.aload_n 0, 1) := by decide +kernel
theorem d_Reader_countBare_53 : decode b_Reader_countBare 53 = .ok (.ldc 172, 2) := by decide +kernel
theorem d_Reader_countBare_55 : decode b_Reader_countBare 55 = .ok (.invokevirtual 116, 3) := by decide +kernel
theorem d_Reader_countBare_58 : decode b_Reader_countBare 58 = .ok (.ifCond .eq 16, 3) := by decide +kernel
theorem d_Reader_countBare_61 : decode b_Reader_countBare 61 = .ok (.aload_n 0, 1) := by decide +kernel
theorem d_Reader_countBare_62 : decode b_Reader_countBare 62 = .ok (.getfield 23, 3) := by decide +kernel
theorem d_Reader_countBare_65 : decode b_Reader_countBare 65 = .ok (.bipush 11, 2) := by decide +kernel
theorem d_Reader_countBare_67 : decode b_Reader_countBare 67 = .ok (.iconst 1, 1) := by decide +kernel
theorem d_Reader_countBare_68 : decode b_Reader_countBare 68 = .ok (.invokevirtual 87, 3) := by decide +kernel
theorem d_Reader_countBare_71 : decode b_Reader_countBare 71 = .ok (.goto 23, 3) := by decide +kernel
theorem d_Reader_countBare_74 : decode b_Reader_countBare 74 = .ok (.aload_n 0, 1) := by decide +kernel
theorem d_Reader_countBare_75 : decode b_Reader_countBare 75 = .ok (.ldc 174, 2) := by decide +kernel
theorem d_Reader_countBare_77 : decode b_Reader_countBare 77 = .ok (.invokevirtual 116, 3) := by decide +kernel
theorem d_Reader_countBare_80 : decode b_Reader_countBare 80 = .ok (.ifCond .eq 14, 3) := by decide +kernel
theorem d_Reader_countBare_83 : decode b_Reader_countBare 83 = .ok (.aload_n 0, 1) := by decide +kernel
theorem d_Reader_countBare_84 : decode b_Reader_countBare 84 = .ok (.getfield 23, 3) := by decide +kernel
theorem d_Reader_countBare_87 : decode b_Reader_countBare 87 = .ok (.bipush 13, 2) := by decide +kernel
theorem d_Reader_countBare_89 : decode b_Reader_countBare 89 = .ok (.bipush (-2), 2) := by decide +kernel
theorem d_Reader_countBare_91 : decode b_Reader_countBare 91 = .ok (.invokevirtual 87, 3) := by decide +kernel
theorem d_Reader_countBare_94 : decode b_Reader_countBare 94 = .ok (.return_, 1) := by decide +kernel
theorem d_Reader_countWithNumber_0 : decode b_Reader_countWithNumber 0 = .ok (.aload_n 0, 1) := by decide +kernel
theorem d_Reader_countWithNumber_1 : decode b_Reader_countWithNumber 1 = .ok (.ldc 176, 2) := by decide +kernel
theorem d_Reader_countWithNumber_3 : decode b_Reader_countWithNumber 3 = .ok (.invokevirtual 116, 3) := by decide +kernel
theorem d_Reader_countWithNumber_6 : decode b_Reader_countWithNumber 6 = .ok (.ifCond .eq 19, 3) := by decide +kernel
theorem d_Reader_countWithNumber_9 : decode b_Reader_countWithNumber 9 = .ok (.aload_n 0, 1) := by decide +kernel
theorem d_Reader_countWithNumber_10 : decode b_Reader_countWithNumber 10 = .ok (.getfield 23, 3) := by decide +kernel
theorem d_Reader_countWithNumber_13 : decode b_Reader_countWithNumber 13 = .ok (.bipush 12, 2) := by decide +kernel
theorem d_Reader_countWithNumber_15 : decode b_Reader_countWithNumber 15 = .ok (.aload_n 0, 1) := by decide +kernel
theorem d_Reader_countWithNumber_16 : decode b_Reader_countWithNumber 16 = .ok (.getfield 40, 3) := by decide +kernel
theorem d_Reader_countWithNumber_19 : decode b_Reader_countWithNumber 19 = .ok (.invokevirtual 87, 3) := by decide +kernel
theorem d_Reader_countWithNumber_22 : decode b_Reader_countWithNumber 22 = .ok (.goto 108, 3) := by decide +kernel
theorem d_Reader_countWithNumber_25 : decode b_Reader_countWithNumber 25 = .ok (.aload_n 0, 1) := by decide +kernel
theorem d_Reader_countWithNumber_26 : decode b_Reader_countWithNumber 26 = .ok (.getfield 31, 3) := by decide +kernel
theorem d_Reader_countWithNumber_29 : decode b_Reader_countWithNumber 29 = .ok (.iconst 1, 1) := by decide +kernel
theorem d_Reader_countWithNumber_30 : decode b_Reader_countWithNumber 30 = .ok (.if_icmp .ne 53, 3) := by decide +kernel
theorem d_Reader_countWithNumber_33 : decode b_Reader_countWithNumber 33 = .ok (.aload_n 0, 1) := by decide +kernel
theorem d_Reader_countWithNumber_34 : decode b_Reader_countWithNumber 34 = .ok (.ldc 178, 2) := by decide +kernel
theorem d_Reader_countWithNumber_36 : decode b_Reader_countWithNumber 36 = .ok (.invokevirtual 116, 3) := by decide +kernel
theorem d_Reader_countWithNumber_39 : decode b_Reader_countWithNumber 39 = .ok (.ifCond .eq 19, 3) := by decide +kernel
theorem d_Reader_countWithNumber_42 : decode b_Reader_countWithNumber 42 = .ok (.aload_n 0, 1) := by decide +kernel
theorem d_Reader_countWithNumber_43 : decode b_Reader_countWithNumber 43 = .ok (.getfield 23, 3) := by decide +kernel
theorem d_Reader_countWithNumber_46 : decode b_Reader_countWithNumber 46 = .ok (.bipush 16, 2) := by decide +kernel
theorem d_Reader_countWithNumber_48 : decode b_Reader_countWithNumber 48 = .ok (.aload_n 0, 1) := by decide +kernel
theorem d_Reader_countWithNumber_49 : decode b_Reader_countWithNumber 49 = .ok (.getfield 40, 3) := by decide +kernel
theorem d_Reader_countWithNumber_52 : decode b_Reader_countWithNumber 52 = .ok (.invokevirtual 87, 3) := by decide +kernel
theorem d_Reader_countWithNumber_55 : decode b_Reader_countWithNumber 55 = .ok (.goto 75, 3) := by decide +kernel
theorem d_Reader_countWithNumber_58 : decode b_Reader_countWithNumber 58 = .ok (.aload_n 0, 1) := by decide +kernel
theorem d_Reader_countWithNumber_59 : decode b_Reader_countWithNumber 59 = .ok (.ldc 180, 2) := by decide +kernel
theorem d_Reader_countWithNumber_61 : decode b_Reader_countWithNumber 61 = .ok (.invokevirtual 116, 3) := by decide +kernel
theorem d_Reader_countWithNumber_64 : decode b_Reader_countWithNumber 64 = .ok (.ifCond .eq 66, 3) := by decide +kernel
theorem d_Reader_countWithNumber_67 : decode b_Reader_countWithNumber 67 = .ok (.aload_n 0, 1) := by decide +kernel
theorem d_Reader_countWithNumber_68 : decode b_Reader_countWithNumber 68 = .ok (.getfield 23, 3) := by decide +kernel
theorem d_Reader_countWithNumber_71 : decode b_Reader_countWithNumber 71 = .ok (.bipush 17, 2) := by decide +kernel
theorem d_Reader_countWithNumber_73 : decode b_Reader_countWithNumber 73 = .ok (.aload_n 0, 1) := by decide +kernel
theorem d_Reader_countWithNumber_74 : decode b_Reader_countWithNumber 74 = .ok (.getfield 40, 3) := by decide +kernel
theorem d_Reader_countWithNumber_77 : decode b_Reader_countWithNumber 77 = .ok (.invokevirtual 87, 3) := by decide +kernel
theorem d_Reader_countWithNumber_80 : decode b_Reader_countWithNumber 80 = .ok (.goto 50, 3) := by decide +kernel
theorem d_Reader_countWithNumber_83 : decode b_Reader_countWithNumber 83 = .ok (.aload_n 0, 1) := by decide +kernel
theorem d_Reader_countWithNumber_84 : decode b_Reader_countWithNumber 84 = .ok (.ldc 174, 2) := by decide +kernel
theorem d_Reader_countWithNumber_86 : decode b_Reader_countWithNumber 86 = .ok (.invokevirtual 116, 3) := by decide +kernel
theorem d_Reader_countWithNumber_89 : decode b_Reader_countWithNumber 89 = .ok (.ifCond .eq 19, 3) := by decide +kernel
theorem d_Reader_countWithNumber_92 : decode b_Reader_countWithNumber 92 = .ok (.aload_n 0, 1) := by decide +kernel
theorem d_Reader_countWithNumber_93 : decode b_Reader_countWithNumber 93 = .ok (.getfield 23, 3) := by decide +kernel
theorem d_Reader_countWithNumber_96 : decode b_Reader_countWithNumber 96 = .ok (.bipush 13, 2) := by decide +kernel
theorem d_Reader_countWithNumber_98 : decode b_Reader_countWithNumber 98 = .ok (.aload_n 0, 1) := by decide +kernel
theorem d_Reader_countWithNumber_99 : decode b_Reader_countWithNumber 99 = .ok (.getfield 40, 3) := by decide +kernel
theorem d_Reader_countWithNumber_102 : decode b_Reader_countWithNumber 102 = .ok (.invokevirtual 87, 3) := by decide +kernel
theorem d_Reader_countWithNumber_105 : decode b_Reader_countWithNumber 105 = .ok (.goto 25, 3) := by decide +kernel
theorem d_Reader_countWithNumber_108 : decode b_Reader_countWithNumber 108 = .ok (.aload_n 0, 1) := by decide +kernel
theorem d_Reader_countWithNumber_109 : decode b_Reader_countWithNumber 109 = .ok (.ldc 182, 2) := by decide +kernel
theorem d_Reader_countWithNumber_111 : decode b_Reader_countWithNumber 111 = .ok (.invokevirtual 116, 3) := by decide +kernel
theorem d_Reader_countWithNumber_114 : decode b_Reader_countWithNumber 114 = .ok (.ifCond .eq 16, 3) := by decide +kernel
theorem d_Reader_countWithNumber_117 : decode b_Reader_countWithNumber 117 = .ok (.aload_n 0, 1) := by decide +kernel
theorem d_Reader_countWithNumber_118 : decode b_Reader_countWithNumber 118 = .ok (.getfield 23, 3) := by decide +kernel
theorem d_Reader_countWithNumber_121 : decode b_Reader_countWithNumber 121 = .ok (.bipush 14, 2) := by decide +kernel
theorem d_Reader_countWithNumber_123 : decode b_Reader_countWithNumber 123 = .ok (.aload_n 0, 1) := by decide +kernel
theorem d_Reader_countWithNumber_124 : decode b_Reader_countWithNumber 124 = .ok (.getfield 40, 3) := by decide +kernel
theorem d_Reader_countWithNumber_127 : decode b_Reader_countWithNumber 127 = .ok (.invokevirtual 87, 3) := by decide +kernel
theorem d_Reader_countWithNumber_130 : decode b_Reader_countWithNumber 130 = .ok (.return_, 1) := by decide +kernel
theorem d_Reader_readRange_0 : decode b_Reader_readRange 0 = .ok (.aload_n 0, 1) := by decide +kernel
theorem d_Reader_readRange_1 : decode b_Reader_readRange 1 = .ok (.ldc 145, 2) := by decide +kernel
theorem d_Reader_readRange_3 : decode b_Reader_readRange 3 = .ok (.invokevirtual 93, 3) := by decide +kernel
theorem d_Reader_readRange_6 : decode b_Reader_readRange 6 = .ok (.ifCond .ne 5, 3) := by decide +kernel
theorem d_Reader_readRange_9 : decode b_Reader_readRange 9 = .ok (.iconst 0, 1) := by decide +kernel
theorem d_Reader_readRange_10 : decode b_Reader_readRange 10 = .ok (.ireturn, 1) := by decide +kernel
theorem d_Reader_readRange_11 : decode b_Reader_readRange 11 = .ok (.aload_n 0, 1) := by decide +kernel
theorem d_Reader_readRange_12 : decode b_Reader_readRange 12 = .ok (.bipush 45, 2) := by decide +kernel
theorem d_Reader_readRange_14 : decode b_Reader_readRange 14 = .ok (.invokevirtual 60, 3) := by decide +kernel
theorem d_Reader_readRange_17 : decode b_Reader_readRange 17 = .ok (.istore_n 1, 1) := by decide +kernel
theorem d_Reader_readRange_18 : decode b_Reader_readRange 18 = .ok (.aload_n 0, 1) := by decide +kernel
theorem d_Reader_readRange_19 : decode b_Reader_readRange 19 = .ok (.ldc 147, 2) := by decide +kernel
theorem d_Reader_readRange_21 : decode b_Reader_readRange 21 = .ok (.invokevirtual 101, 3) := by decide +kernel
theorem d_Reader_readRange_24 : decode b_Reader_readRange 24 = .ok (.ifCond .ne 5, 3) := by decide +kernel
theorem d_Reader_readRange_27 : decode b_Reader_readRange 27 = .ok (.iconst 0, 1) := by decide +kernel
theorem d_Reader_readRange_28 : decode b_Reader_readRange 28 = .ok (.ireturn, 1) := by decide +kernel
theorem d_Reader_readRange_29 : decode b_Reader_readRange 29 = .ok (.aload_n 0, 1) := by decide +kernel
theorem d_Reader_readRange_30 : decode b_Reader_readRange 30 = .ok (.getfield 40, 3) := by decide +kernel
theorem d_Reader_readRange_33 : decode b_Reader_readRange 33 = .ok (.istore_n 2, 1) := by decide +kernel
theorem d_Reader_readRange_34 : decode b_Reader_readRange 34 = .ok (.iload_n 1, 1) := by decide +kernel
theorem d_Reader_readRange_35 : decode b_Reader_readRange 35 = .ok (.ifCond .eq 15, 3) := by decide +kernel
theorem d_Reader_readRange_38 : decode b_Reader_readRange 38 = .ok (.aload_n 0, 1) := by decide +kernel
theorem d_Reader_readRange_39 : decode b_Reader_readRange 39 = .ok (.getfield 23, 3) := by decide +kernel
theorem d_Reader_readRange_42 : decode b_Reader_readRange 42 = .ok (.iconst 3, 1) := by decide +kernel
theorem d_Reader_readRange_43 : decode b_Reader_readRange 43 = .ok (.iload_n 2, 1) := by decide +kernel
theorem d_Reader_readRange_44 : decode b_Reader_readRange 44 = .ok (.iconst (-1), 1) := by decide +kernel
theorem d_Reader_readRange_45 : decode b_Reader_readRange 45 = .ok (.invokevirtual 148, 3) := by decide +kernel
theorem d_Reader_readRange_48 : decode b_Reader_readRange 48 = .ok (.iconst 1, 1) := by decide +kernel
theorem d_Reader_readRange_49 : decode b_Reader_readRange 49 = .ok (.ireturn, 1) := by decide +kernel
theorem d_Reader_readRange_50 : decode b_Reader_readRange 50 = .ok (.aload_n 0, 1) := by decide +kernel
theorem d_Reader_readRange_51 : decode b_Reader_readRange 51 = .ok (.bipush 45, 2) := by decide +kernel
theorem d_Reader_readRange_53 : decode b_Reader_readRange 53 = .ok (.invokevirtual 78, 3) := by decide +kernel
theorem d_Reader_readRange_56 : decode b_Reader_readRange 56 = .ok (.ifCond .ne 5, 3) := by decide +kernel
theorem d_Reader_readRange_59 : decode b_Reader_readRange 59 = .ok (.iconst 0, 1) := by decide +kernel
theorem d_Reader_readRange_60 : decode b_Reader_readRange 60 = .ok (.ireturn, 1) := by decide +kernel
theorem d_Reader_readRange_61 : decode b_Reader_readRange 61 = .ok (.aload_n 0, 1) := by decide +kernel
theorem d_Reader_readRange_62 : decode b_Reader_readRange 62 = .ok (.invokevirtual 64, 3) := by decide +kernel
theorem d_Reader_readRange_65 : decode b_Reader_readRange 65 = .ok (.invokestatic 152, 3) := by decide +kernel
theorem d_Reader_readRange_68 : decode b_Reader_readRange 68 = .ok (.ifCond .ne 15, 3) := by decide +kernel
theorem d_Reader_readRange_71 : decode b_Reader_readRange 71 = .ok (.aload_n 0, 1) := by decide +kernel
theorem d_Reader_readRange_72 : decode b_Reader_readRange 72 = .ok (.getfield 23, 3) := by decide +kernel
theorem d_Reader_readRange_75 : decode b_Reader_readRange 75 = .ok (.iconst 2, 1) := by decide +kernel
theorem d_Reader_readRange_76 : decode b_Reader_readRange 76 = .ok (.iload_n 2, 1) := by decide +kernel
theorem d_Reader_readRange_77 : decode b_Reader_readRange 77 = .ok (.iconst (-1), 1) := by decide +kernel
theorem d_Reader_readRange_78 : decode b_Reader_readRange 78 = .ok (.invokevirtual 148, 3) := by decide +kernel
theorem d_Reader_readRange_81 : decode b_Reader_readRange 81 = .ok (.iconst 1, 1) := by decide +kernel
theorem d_Reader_readRange_82 : decode b_Reader_readRange 82 = .ok (.ireturn, 1) := by decide +kernel
theorem d_Reader_readRange_83 : decode b_Reader_readRange 83 = .ok (.aload_n 0, 1) := by decide +kernel
theorem d_Reader_readRange_84 : decode b_Reader_readRange 84 = .ok (.ldc 147, 2) := by decide +kernel
theorem d_Reader_readRange_86 : decode b_Reader_readRange 86 = .ok (.invokevirtual 101, 3) := by decide +kernel
theorem d_Reader_readRange_89 : decode b_Reader_readRange 89 = .ok (.ifCond .ne 5, 3) := by decide +kernel
theorem d_Reader_readRange_92 : decode b_Reader_readRange 92 = .ok (.iconst 0, 1) := by decide +kernel
theorem d_Reader_readRange_93 : decode b_Reader_readRange 93 = .ok (.ireturn, 1) := by decide +kernel
theorem d_Reader_readRange_94 : decode b_Reader_readRange 94 = .ok (.iload_n 2, 1) := by decide +kernel
theorem d_Reader_readRange_95 : decode b_Reader_readRange 95 = .ok (.aload_n 0, 1) := by decide +kernel
theorem d_Reader_readRange_96 : decode b_Reader_readRange 96 = .ok (.getfield 40, 3) := by decide +kernel
theorem d_Reader_readRange_99 : decode b_Reader_readRange 99 = .ok (.if_icmp .gt 16, 3) := by decide +kernel
theorem d_Reader_readRange_102 : decode b_Reader_readRange 102 = .ok (.aload_n 0, 1) := by decide +kernel
theorem d_Reader_readRange_103 : decode b_Reader_readRange 103 = .ok (.getfield 23, 3) := by decide +kernel
theorem d_Reader_readRange_106 : decode b_Reader_readRange 106 = .ok (.iconst 1, 1) := by decide +kernel
theorem d_Reader_readRange_107 : decode b_Reader_readRange 107 = .ok (.iload_n 2, 1) := by decide +kernel
theorem d_Reader_readRange_108 : decode b_Reader_readRange 108 = .ok (.aload_n 0, 1) := by decide +kernel
theorem d_Reader_readRange_109 : decode b_Reader_readRange 109 = .ok (.getfield 40, 3) := by decide +kernel
theorem d_Reader_readRange_112 : decode b_Reader_readRange 112 = .ok (.invokevirtual 148, 3) := by decide +kernel
theorem d_Reader_readRange_115 : decode b_Reader_readRange 115 = .ok (.iconst 1, 1) := by decide +kernel
theorem d_Reader_readRange_116 : decode b_Reader_readRange 116 = .ok (.ireturn, 1) := by decide +kernel
theorem d_Reader_readVersions_0 : decode b_Reader_readVersions 0 = .ok (.aload_n 0, 1) := by decide +kernel
theorem d_Reader_readVersions_1 : decode b_Reader_readVersions 1 = .ok (.bipush 42, 2) := by decide +kernel
theorem d_Reader_readVersions_3 : decode b_Reader_readVersions 3 = .ok (.invokevirtual 60, 3) := by decide +kernel
theorem d_Reader_readVersions_6 : decode b_Reader_readVersions 6 = .ok (.ifCond .eq 15, 3) := by decide +kernel
theorem d_Reader_readVersions_9 : decode b_Reader_readVersions 9 = .ok (.aload_n 0, 1) := by decide +kernel
theorem d_Reader_readVersions_10 : decode b_Reader_readVersions 10 = .ok (.getfield 23, 3) := by decide +kernel
theorem d_Reader_readVersions_13 : decode b_Reader_readVersions 13 = .ok (.bipush 6, 2) := by decide +kernel
theorem d_Reader_readVersions_15 : decode b_Reader_readVersions 15 = .ok (.iconst 1, 1) := by decide +kernel
theorem d_Reader_readVersions_16 : decode b_Reader_readVersions 16 = .ok (.invokevirtual 87, 3) := by decide +kernel
theorem d_Reader_readVersions_19 : decode b_Reader_readVersions 19 = .ok (.iconst 1, 1) := by decide +kernel
theorem d_Reader_readVersions_20 : decode b_Reader_readVersions 20 = .ok (.ireturn, 1) := by decide +kernel
theorem d_Reader_readVersions_21 : decode b_Reader_readVersions 21 = .ok (.iconst 1, 1) := by decide +kernel
theorem d_Reader_readVersions_22 : decode b_Reader_readVersions 22 = .ok (.istore_n 1, 1) := by decide +kernel
theorem d_Reader_readVersions_23 : decode b_Reader_readVersions 23 = .ok (.iload_n 1, 1) := by decide +kernel
theorem d_Reader_readVersions_24 : decode b_Reader_readVersions 24 = .ok (.bipush 8, 2) := by decide +kernel
theorem d_Reader_readVersions_26 : decode b_Reader_readVersions 26 = .ok (.if_icmp .gt 77, 3) := by decide +kernel
theorem d_Reader_readVersions_29 : decode b_Reader_readVersions 29 = .ok (.aload_n 0, 1) := by decide +kernel
theorem d_Reader_readVersions_30 : decode b_Reader_readVersions 30 = .ok (.bipush 34, 2) := by decide +kernel
theorem d_Reader_readVersions_32 : decode b_Reader_readVersions 32 = .ok (.invokevirtual 78, 3) := by decide +kernel
theorem d_Reader_readVersions_35 : decode b_Reader_readVersions 35 = .ok (.ifCond .eq 21, 3) := by decide +kernel
theorem d_Reader_readVersions_38 : decode b_Reader_readVersions 38 = .ok (.aload_n 0, 1) := by decide +kernel
theorem d_Reader_readVersions_39 : decode b_Reader_readVersions 39 = .ok (.ldc 147, 2) := by decide +kernel
theorem d_Reader_readVersions_41 : decode b_Reader_readVersions 41 = .ok (.invokevirtual 101, 3) := by decide +kernel
theorem d_Reader_readVersions_44 : decode b_Reader_readVersions 44 = .ok (.ifCond .eq 12, 3) := by decide +kernel
theorem d_Reader_readVersions_47 : decode b_Reader_readVersions 47 = .ok (.aload_n 0, 1) := by decide +kernel
theorem d_Reader_readVersions_48 : decode b_Reader_readVersions 48 = .ok (.bipush 34, 2) := by decide +kernel
theorem d_Reader_readVersions_50 : decode b_Reader_readVersions 50 = .ok (.invokevirtual 78, 3) := by decide +kernel
theorem d_Reader_readVersions_53 : decode b_Reader_readVersions 53 = .ok (.ifCond .ne 5, 3) := by decide +kernel
theorem d_Reader_readVersions_56 : decode b_Reader_readVersions 56 = .ok (.iconst 0, 1) := by decide +kernel
theorem d_Reader_readVersions_57 : decode b_Reader_readVersions 57 = .ok (.ireturn, 1) := by decide +kernel
theorem d_Reader_readVersions_58 : decode b_Reader_readVersions 58 = .ok (.aload_n 0, 1) := by decide +kernel
theorem d_Reader_readVersions_59 : decode b_Reader_readVersions 59 = .ok (.getfield 23, 3) := by decide +kernel
theorem d_Reader_readVersions_62 : decode b_Reader_readVersions 62 = .ok (.aload_n 0, 1) := by decide +kernel
theorem d_Reader_readVersions_63 : decode b_Reader_readVersions 63 = .ok (.getfield 40, 3) := by decide +kernel
theorem d_Reader_readVersions_66 : decode b_Reader_readVersions 66 = .ok (.invokevirtual 155, 3) := by decide +kernel
theorem d_Reader_readVersions_69 : decode b_Reader_readVersions 69 = .ok (.iload_n 1, 1) := by decide +kernel
theorem d_Reader_readVersions_70 : decode b_Reader_readVersions 70 = .ok (.bipush 8, 2) := by decide +kernel
theorem d_Reader_readVersions_72 : decode b_Reader_readVersions 72 = .ok (.if_icmp .eq 12, 3) := by decide +kernel
theorem d_Reader_readVersions_75 : decode b_Reader_readVersions 75 = .ok (.aload_n 0, 1) := by decide +kernel
theorem d_Reader_readVersions_76 : decode b_Reader_readVersions 76 = .ok (.bipush 44, 2) := by decide +kernel
theorem d_Reader_readVersions_78 : decode b_Reader_readVersions 78 = .ok (.invokevirtual 60, 3) := by decide +kernel
theorem d_Reader_readVersions_81 : decode b_Reader_readVersions 81 = .ok (.ifCond .ne 5, 3) := by decide +kernel
theorem d_Reader_readVersions_84 : decode b_Reader_readVersions 84 = .ok (.iconst 1, 1) := by decide +kernel
theorem d_Reader_readVersions_85 : decode b_Reader_readVersions 85 = .ok (.ireturn, 1) := by decide +kernel
theorem d_Reader_readVersions_86 : decode b_Reader_readVersions 86 = .ok (.aload_n 0, 1) := by decide +kernel
theorem d_Reader_readVersions_87 : decode b_Reader_readVersions 87 = .ok (.bipush 32, 2) := by decide +kernel
theorem d_Reader_readVersions_89 : decode b_Reader_readVersions 89 = .ok (.invokevirtual 78, 3) := by decide +kernel
theorem d_Reader_readVersions_92 : decode b_Reader_readVersions 92 = .ok (.ifCond .ne 5, 3) := by decide +kernel
theorem d_Reader_readVersions_95 : decode b_Reader_readVersions 95 = .ok (.iconst 0, 1) := by decide +kernel
theorem d_Reader_readVersions_96 : decode b_Reader_readVersions 96 = .ok (.ireturn, 1) := by decide +kernel
theorem d_Reader_readVersions_97 : decode b_Reader_readVersions 97 = .ok (.iinc 1 1, 3) := by decide +kernel
theorem d_Reader_readVersions_100 : decode b_Reader_readVersions 100 = .ok (.goto (-77), 3) := by decide +kernel
theorem d_Reader_readVersions_103 : decode b_Reader_readVersions 103 = .ok (.iconst 1, 1) := by decide +kernel
theorem d_Reader_readVersions_104 : decode b_Reader_readVersions 104 = .ok (.ireturn, 1) := by decide +kernel
theorem d_Reader_readLength_0 : decode b_Reader_readLength 0 = .ok (.aload_n 0, 1) := by decide +kernel
theorem d_Reader_readLength_1 : decode b_Reader_readLength 1 = .ok (.sipush 255, 3) := by decide +kernel
theorem d_Reader_readLength_4 : decode b_Reader_readLength 4 = .ok (.invokevirtual 101, 3) := by decide +kernel
theorem d_Reader_readLength_7 : decode b_Reader_readLength 7 = .ok (.ifCond .ne 5, 3) := by decide +kernel
theorem d_Reader_readLength_10 : decode b_Reader_readLength 10 = .ok (.iconst 0, 1) := by decide +kernel
theorem d_Reader_readLength_11 : decode b_Reader_readLength 11 = .ok (.ireturn, 1) := by decide +kernel
theorem d_Reader_readLength_12 : decode b_Reader_readLength 12 = .ok (.aload_n 0, 1) := by decide +kernel
theorem d_Reader_readLength_13 : decode b_Reader_readLength 13 = .ok (.getfield 23, 3) := by decide +kernel
theorem d_Reader_readLength_16 : decode b_Reader_readLength 16 = .ok (.bipush 8, 2) := by decide +kernel
theorem d_Reader_readLength_18 : decode b_Reader_readLength 18 = .ok (.aload_n 0, 1) := by decide +kernel
theorem d_Reader_readLength_19 : decode b_Reader_readLength 19 = .ok (.getfield 40, 3) := by decide +kernel
theorem d_Reader_readLength_22 : decode b_Reader_readLength 22 = .ok (.invokevirtual 87, 3) := by decide +kernel
theorem d_Reader_readLength_25 : decode b_Reader_readLength 25 = .ok (.iconst 1, 1) := by decide +kernel
theorem d_Reader_readLength_26 : decode b_Reader_readLength 26 = .ok (.ireturn, 1) := by decide +kernel
theorem d_Reader_readKeys_0 : decode b_Reader_readKeys 0 = .ok (.iconst 1, 1) := by decide +kernel
theorem d_Reader_readKeys_1 : decode b_Reader_readKeys 1 = .ok (.istore_n 1, 1) := by decide +kernel
theorem d_Reader_readKeys_2 : decode b_Reader_readKeys 2 = .ok (.iload_n 1, 1) := by decide +kernel
theorem d_Reader_readKeys_3 : decode b_Reader_readKeys 3 = .ok (.bipush 8, 2) := by decide +kernel
theorem d_Reader_readKeys_5 : decode b_Reader_readKeys 5 = .ok (.if_icmp .gt 70, 3) := by decide +kernel
theorem d_Reader_readKeys_8 : decode b_Reader_readKeys 8 = .ok (.aload_n 0, 1) := by decide +kernel
theorem d_Reader_readKeys_9 : decode b_Reader_readKeys 9 = .ok (.invokevirtual 64, 3) := by decide +kernel
theorem d_Reader_readKeys_12 : decode b_Reader_readKeys 12 = .ok (.istore_n 2, 1) := by decide +kernel
theorem d_Reader_readKeys_13 : decode b_Reader_readKeys 13 = .ok (.iload_n 2, 1) := by decide +kernel
theorem d_Reader_readKeys_14 : decode b_Reader_readKeys 14 = .ok (.bipush 97, 2) := by decide +kernel
theorem d_Reader_readKeys_16 : decode b_Reader_readKeys 16 = .ok (.if_icmp .lt 9, 3) := by decide +kernel
theorem d_Reader_readKeys_19 : decode b_Reader_readKeys 19 = .ok (.iload_n 2, 1) := by decide +kernel
theorem d_Reader_readKeys_20 : decode b_Reader_readKeys 20 = .ok (.bipush 104, 2) := by decide +kernel
theorem d_Reader_readKeys_22 : decode b_Reader_readKeys 22 = .ok (.if_icmp .le 12, 3) := by decide +kernel
theorem d_Reader_readKeys_25 : decode b_Reader_readKeys 25 = .ok (.aload_n 0, 1) := by decide +kernel
theorem d_Reader_readKeys_26 : decode b_Reader_readKeys 26 = .ok (.aload_n 0, 1) := by decide +kernel
theorem d_Reader_readKeys_27 : decode b_Reader_readKeys 27 = .ok (.getfield 34, 3) := by decide +kernel
theorem d_Reader_readKeys_30 : decode b_Reader_readKeys 30 = .ok (.invokevirtual 68, 3) := by decide +kernel
theorem d_Reader_readKeys_33 : decode b_Reader_readKeys 33 = .ok (.ireturn, 1) := by decide +kernel
theorem d_Reader_readKeys_34 : decode b_Reader_readKeys 34 = .ok (.aload_n 0, 1) := by decide +kernel
theorem d_Reader_readKeys_35 : decode b_Reader_readKeys 35 = .ok (.getfield 23, 3) := by decide +kernel
theorem d_Reader_readKeys_38 : decode b_Reader_readKeys 38 = .ok (.iload_n 2, 1) := by decide +kernel
theorem d_Reader_readKeys_39 : decode b_Reader_readKeys 39 = .ok (.invokevirtual 159, 3) := by decide +kernel
theorem d_Reader_readKeys_42 : decode b_Reader_readKeys 42 = .ok (.aload_n 0, 1) := by decide +kernel
theorem d_Reader_readKeys_43 : decode b_Reader_readKeys 43 = .ok (.dup, 1) := by decide +kernel
theorem d_Reader_readKeys_44 : decode b_Reader_readKeys 44 = .ok (.getfield 34, 3) := by decide +kernel
theorem d_Reader_readKeys_47 : decode b_Reader_readKeys 47 = .ok (.iconst 1, 1) := by decide +kernel
theorem d_Reader_readKeys_48 : decode b_Reader_readKeys 48 = .ok (.iadd, 1) := by decide +kernel
theorem d_Reader_readKeys_49 : decode b_Reader_readKeys 49 = .ok (.putfield 34, 3) := by decide +kernel
theorem d_Reader_readKeys_52 : decode b_Reader_readKeys 52 = .ok (.iload_n 1, 1) := by decide +kernel
theorem d_Reader_readKeys_53 : decode b_Reader_readKeys 53 = .ok (.bipush 8, 2) := by decide +kernel
theorem d_Reader_readKeys_55 : decode b_Reader_readKeys 55 = .ok (.if_icmp .eq 12, 3) := by decide +kernel
theorem d_Reader_readKeys_58 : decode b_Reader_readKeys 58 = .ok (.aload_n 0, 1) := by decide +kernel
theorem d_Reader_readKeys_59 : decode b_Reader_readKeys 59 = .ok (.bipush 32, 2) := by decide +kernel
theorem d_Reader_readKeys_61 : decode b_Reader_readKeys 61 = .ok (.invokevirtual 60, 3) := by decide +kernel
theorem d_Reader_readKeys_64 : decode b_Reader_readKeys 64 = .ok (.ifCond .ne 5, 3) := by decide +kernel
theorem d_Reader_readKeys_67 : decode b_Reader_readKeys 67 = .ok (.iconst 1, 1) := by decide +kernel
theorem d_Reader_readKeys_68 : decode b_Reader_readKeys 68 = .ok (.ireturn, 1) := by decide +kernel
theorem d_Reader_readKeys_69 : decode b_Reader_readKeys 69 = .ok (.iinc 1 1, 3) := by decide +kernel
theorem d_Reader_readKeys_72 : decode b_Reader_readKeys 72 = .ok (.goto (-70), 3) := by decide +kernel
theorem d_Reader_readKeys_75 : decode b_Reader_readKeys 75 = .ok (.iconst 1, 1) := by decide +kernel
theorem d_Reader_readKeys_76 : decode b_Reader_readKeys 76 = .ok (.ireturn, 1) := by decide +kernel
theorem d_Reader_readAnything_0 : decode b_Reader_readAnything 0 = .ok (.iconst 0, 1) := by decide +kernel
theorem d_Reader_readAnything_1 : decode b_Reader_readAnything 1 = .ok (.istore_n 1, 1) := by decide +kernel
theorem d_Reader_readAnything_2 : decode b_Reader_readAnything 2 = .ok (.iload_n 1, 1) := by decide +kernel
theorem d_Reader_readAnything_3 : decode b_Reader_readAnything 3 = .ok (.sipush 300, 3) := by decide +kernel
theorem d_Reader_readAnything_6 : decode b_Reader_readAnything 6 = .ok (.if_icmp .ge 38, 3) := by decide +kernel
theorem d_Reader_readAnything_9 : decode b_Reader_readAnything 9 = .ok (.aload_n 0, 1) := by decide +kernel
theorem d_Reader_readAnything_10 : decode b_Reader_readAnything 10 = .ok (.invokevirtual 64, 3) := by decide +kernel
theorem d_Reader_readAnything_13 : decode b_Reader_readAnything 13 = .ok (.iconst (-1), 1) := by decide +kernel
theorem d_Reader_readAnything_14 : decode b_Reader_readAnything 14 = .ok (.if_icmp .eq 12, 3) := by decide +kernel
theorem d_Reader_readAnything_17 : decode b_Reader_readAnything 17 = .ok (.aload_n 0, 1) := by decide +kernel
theorem d_Reader_readAnything_18 : decode b_Reader_readAnything 18 = .ok (.invokevirtual 64, 3) := by decide +kernel
theorem d_Reader_readAnything_21 : decode b_Reader_readAnything 21 = .ok (.bipush 10, 2) := by decide +kernel
theorem d_Reader_readAnything_23 : decode b_Reader_readAnything 23 = .ok (.if_icmp .ne 5, 3) := by decide +kernel
theorem d_Reader_readAnything_26 : decode b_Reader_readAnything 26 = .ok (.iconst 1, 1) := by decide +kernel
theorem d_Reader_readAnything_27 : decode b_Reader_readAnything 27 = .ok (.ireturn, 1) := by decide +kernel
theorem d_Reader_readAnything_28 : decode b_Reader_readAnything 28 = .ok (.aload_n 0, 1) := by decide +kernel
theorem d_Reader_readAnything_29 : decode b_Reader_readAnything 29 = .ok (.dup, 1) := by decide +kernel
theorem d_Reader_readAnything_30 : decode b_Reader_readAnything 30 = .ok (.getfield 34, 3) := by decide +kernel
theorem d_Reader_readAnything_33 : decode b_Reader_readAnything 33 = .ok (.iconst 1, 1) := by decide +kernel
theorem d_Reader_readAnything_34 : decode b_Reader_readAnything 34 = .ok (.iadd, 1) := by decide +kernel
theorem d_Reader_readAnything_35 : decode b_Reader_readAnything 35 = .ok (.putfield 34, 3) := by decide +kernel
theorem d_Reader_readAnything_38 : decode b_Reader_readAnything 38 = .ok (.iinc 1 1, 3) := by decide +kernel
theorem d_Reader_readAnything_41 : decode b_Reader_readAnything 41 = .ok (.goto (-39), 3) := by decide +kernel
theorem d_Reader_readAnything_44 : decode b_Reader_readAnything 44 = .ok (.iconst 1, 1) := by decide +kernel
theorem d_Reader_readAnything_45 : decode b_Reader_readAnything 45 = .ok (.ireturn, 1) := by decide +kernel
theorem d_Reader_stuckAt_0 : decode b_Reader_stuckAt 0 = .ok (.aload_n 0, 1) := by decide +kernel
theorem d_Reader_stuckAt_1 : decode b_Reader_stuckAt 1 = .ok (.getfield 37, 3) := by decide +kernel
theorem d_Reader_stuckAt_4 : decode b_Reader_stuckAt 4 = .ok (.ireturn, 1) := by decide +kernel
theorem d_Reader_trade_0 : decode b_Reader_trade 0 = .ok (.aload_n 0, 1) := by decide +kernel
theorem d_Reader_trade_1 : decode b_Reader_trade 1 = .ok (.getfield 23, 3) := by decide +kernel
theorem d_Reader_trade_4 : decode b_Reader_trade 4 = .ok (.astore_n 2, 1) := by decide +kernel
theorem d_Reader_trade_5 : decode b_Reader_trade 5 = .ok (.aload_n 0, 1) := by decide +kernel
theorem d_Reader_trade_6 : decode b_Reader_trade 6 = .ok (.aload_n 1, 1) := by decide +kernel
theorem d_Reader_trade_7 : decode b_Reader_trade 7 = .ok (.putfield 23, 3) := by decide +kernel
theorem d_Reader_trade_10 : decode b_Reader_trade 10 = .ok (.aload_n 2, 1) := by decide +kernel
theorem d_Reader_trade_11 : decode b_Reader_trade 11 = .ok (.areturn, 1) := by decide +kernel
end
section
theorem d_String_length_0 : decode b_String_length 0 = .ok (.aload_n 0, 1) := by decide +kernel
theorem d_String_length_1 : decode b_String_length 1 = .ok (.getfield 9, 3) := by decide +kernel
theorem d_String_length_4 : decode b_String_length 4 = .ok (.arraylength, 1) := by decide +kernel
theorem d_String_length_5 : decode b_String_length 5 = .ok (.aload_n 0, 1) := by decide +kernel
theorem d_String_length_6 : decode b_String_length 6 = .ok (.invokevirtual 335, 3) := by decide +kernel
theorem d_String_length_9 : decode b_String_length 9 = .ok (.ishr, 1) := by decide +kernel
theorem d_String_length_10 : decode b_String_length 10 = .ok (.ireturn, 1) := by decide +kernel
theorem d_String_coder_0 : decode b_String_coder 0 = .ok (.getstatic 38, 3) := by decide +kernel
theorem d_String_coder_3 : decode b_String_coder 3 = .ok (.ifCond .eq 10, 3) := by decide +kernel
theorem d_String_coder_6 : decode b_String_coder 6 = .ok (.aload_n 0, 1) := by decide +kernel
theorem d_String_coder_7 : decode b_String_coder 7 = .ok (.getfield 15, 3) := by decide +kernel
theorem d_String_coder_10 : decode b_String_coder 10 = .ok (.goto 4, 3) := by decide +kernel
theorem d_String_coder_13 : decode b_String_coder 13 = .ok (.iconst 1, 1) := by decide +kernel
theorem d_String_coder_14 : decode b_String_coder 14 = .ok (.ireturn, 1) := by decide +kernel
theorem d_String_charAt_0 : decode b_String_charAt 0 = .ok (.aload_n 0, 1) := by decide +kernel
theorem d_String_charAt_1 : decode b_String_charAt 1 = .ok (.invokevirtual 492, 3) := by decide +kernel
theorem d_String_charAt_4 : decode b_String_charAt 4 = .ok (.ifCond .eq 12, 3) := by decide +kernel
theorem d_String_charAt_7 : decode b_String_charAt 7 = .ok (.aload_n 0, 1) := by decide +kernel
theorem d_String_charAt_8 : decode b_String_charAt 8 = .ok (.getfield 9, 3) := by decide +kernel
theorem d_String_charAt_11 : decode b_String_charAt 11 = .ok (.iload_n 1, 1) := by decide +kernel
theorem d_String_charAt_12 : decode b_String_charAt 12 = .ok (.invokestatic 495, 3) := by decide +kernel
theorem d_String_charAt_15 : decode b_String_charAt 15 = .ok (.ireturn, 1) := by decide +kernel
theorem d_String_charAt_16 : decode b_String_charAt 16 = .ok (.aload_n 0, 1) := by decide +kernel
theorem d_String_charAt_17 : decode b_String_charAt 17 = .ok (.getfield 9, 3) := by decide +kernel
theorem d_String_charAt_20 : decode b_String_charAt 20 = .ok (.iload_n 1, 1) := by decide +kernel
theorem d_String_charAt_21 : decode b_String_charAt 21 = .ok (.invokestatic 498, 3) := by decide +kernel
theorem d_String_charAt_24 : decode b_String_charAt 24 = .ok (.ireturn, 1) := by decide +kernel
theorem d_String_isLatin1_0 : decode b_String_isLatin1 0 = .ok (.getstatic 38, 3) := by decide +kernel
theorem d_String_isLatin1_3 : decode b_String_isLatin1 3 = .ok (.ifCond .eq 14, 3) := by decide +kernel
theorem d_String_isLatin1_6 : decode b_String_isLatin1 6 = .ok (.aload_n 0, 1) := by decide +kernel
theorem d_String_isLatin1_7 : decode b_String_isLatin1 7 = .ok (.getfield 15, 3) := by decide +kernel
theorem d_String_isLatin1_10 : decode b_String_isLatin1 10 = .ok (.ifCond .ne 7, 3) := by decide +kernel
theorem d_String_isLatin1_13 : decode b_String_isLatin1 13 = .ok (.iconst 1, 1) := by decide +kernel
theorem d_String_isLatin1_14 : decode b_String_isLatin1 14 = .ok (.goto 4, 3) := by decide +kernel
theorem d_String_isLatin1_17 : decode b_String_isLatin1 17 = .ok (.iconst 0, 1) := by decide +kernel
theorem d_String_isLatin1_18 : decode b_String_isLatin1 18 = .ok (.ireturn, 1) := by decide +kernel
theorem d_String_checkIndex_0 : decode b_String_checkIndex 0 = .ok (.iload_n 0, 1) := by decide +kernel
theorem d_String_checkIndex_1 : decode b_String_checkIndex 1 = .ok (.iload_n 1, 1) := by decide +kernel
theorem d_String_checkIndex_2 : decode b_String_checkIndex 2 = .ok (.getstatic 1053, 3) := by decide +kernel
theorem d_String_checkIndex_5 : decode b_String_checkIndex 5 = .ok (.invokestatic 1059, 3) := by decide +kernel
theorem d_String_checkIndex_8 : decode b_String_checkIndex 8 = .ok (.pop, 1) := by decide +kernel
theorem d_String_checkIndex_9 : decode b_String_checkIndex 9 = .ok (.return_, 1) := by decide +kernel
theorem d_Latin_charAt_0 : decode b_Latin_charAt 0 = .ok (.iload_n 1, 1) := by decide +kernel
theorem d_Latin_charAt_1 : decode b_Latin_charAt 1 = .ok (.aload_n 0, 1) := by decide +kernel
theorem d_Latin_charAt_2 : decode b_Latin_charAt 2 = .ok (.arraylength, 1) := by decide +kernel
theorem d_Latin_charAt_3 : decode b_Latin_charAt 3 = .ok (.invokestatic 9, 3) := by decide +kernel
theorem d_Latin_charAt_6 : decode b_Latin_charAt 6 = .ok (.aload_n 0, 1) := by decide +kernel
theorem d_Latin_charAt_7 : decode b_Latin_charAt 7 = .ok (.iload_n 1, 1) := by decide +kernel
theorem d_Latin_charAt_8 : decode b_Latin_charAt 8 = .ok (.baload, 1) := by decide +kernel
theorem d_Latin_charAt_9 : decode b_Latin_charAt 9 = .ok (.sipush 255, 3) := by decide +kernel
theorem d_Latin_charAt_12 : decode b_Latin_charAt 12 = .ok (.iand, 1) := by decide +kernel
theorem d_Latin_charAt_13 : decode b_Latin_charAt 13 = .ok (.i2c, 1) := by decide +kernel
theorem d_Latin_charAt_14 : decode b_Latin_charAt 14 = .ok (.ireturn, 1) := by decide +kernel
theorem d_Prec_checkIndex_0 : decode b_Prec_checkIndex 0 = .ok (.iload_n 0, 1) := by decide +kernel
theorem d_Prec_checkIndex_1 : decode b_Prec_checkIndex 1 = .ok (.ifCond .lt 8, 3) := by decide +kernel
theorem d_Prec_checkIndex_4 : decode b_Prec_checkIndex 4 = .ok (.iload_n 0, 1) := by decide +kernel
theorem d_Prec_checkIndex_5 : decode b_Prec_checkIndex 5 = .ok (.iload_n 1, 1) := by decide +kernel
theorem d_Prec_checkIndex_6 : decode b_Prec_checkIndex 6 = .ok (.if_icmp .lt 10, 3) := by decide +kernel
theorem d_Prec_checkIndex_9 : decode b_Prec_checkIndex 9 = .ok (.aload_n 2, 1) := by decide +kernel
theorem d_Prec_checkIndex_10 : decode b_Prec_checkIndex 10 = .ok (.iload_n 0, 1) := by decide +kernel
theorem d_Prec_checkIndex_11 : decode b_Prec_checkIndex 11 = .ok (.iload_n 1, 1) := by decide +kernel
theorem d_Prec_checkIndex_12 : decode b_Prec_checkIndex 12 = .ok (.invokestatic 95, 3) := by decide +kernel
theorem d_Prec_checkIndex_15 : decode b_Prec_checkIndex 15 = .ok (.athrow, 1) := by decide +kernel
theorem d_Prec_checkIndex_16 : decode b_Prec_checkIndex 16 = .ok (.iload_n 0, 1) := by decide +kernel
theorem d_Prec_checkIndex_17 : decode b_Prec_checkIndex 17 = .ok (.ireturn, 1) := by decide +kernel
end
section
theorem d_Desk_init_0 : decode b_Desk_init 0 = .ok (.aload_n 0, 1) := by decide +kernel
theorem d_Desk_init_1 : decode b_Desk_init 1 = .ok (.invokespecial 1, 3) := by decide +kernel
theorem d_Desk_init_4 : decode b_Desk_init 4 = .ok (.aload_n 0, 1) := by decide +kernel
theorem d_Desk_init_5 : decode b_Desk_init 5 = .ok (.new 7, 3) := by decide +kernel
theorem d_Desk_init_8 : decode b_Desk_init 8 = .ok (.dup, 1) := by decide +kernel
theorem d_Desk_init_9 : decode b_Desk_init 9 = .ok (.invokespecial 9, 3) := by decide +kernel
theorem d_Desk_init_12 : decode b_Desk_init 12 = .ok (.putfield 10, 3) := by decide +kernel
theorem d_Desk_init_15 : decode b_Desk_init 15 = .ok (.aload_n 0, 1) := by decide +kernel
theorem d_Desk_init_16 : decode b_Desk_init 16 = .ok (.new 16, 3) := by decide +kernel
theorem d_Desk_init_19 : decode b_Desk_init 19 = .ok (.dup, 1) := by decide +kernel
theorem d_Desk_init_20 : decode b_Desk_init 20 = .ok (.aload_n 0, 1) := by decide +kernel
theorem d_Desk_init_21 : decode b_Desk_init 21 = .ok (.getfield 10, 3) := by decide +kernel
theorem d_Desk_init_24 : decode b_Desk_init 24 = .ok (.invokespecial 18, 3) := by decide +kernel
theorem d_Desk_init_27 : decode b_Desk_init 27 = .ok (.putfield 21, 3) := by decide +kernel
theorem d_Desk_init_30 : decode b_Desk_init 30 = .ok (.aload_n 0, 1) := by decide +kernel
theorem d_Desk_init_31 : decode b_Desk_init 31 = .ok (.new 25, 3) := by decide +kernel
theorem d_Desk_init_34 : decode b_Desk_init 34 = .ok (.dup, 1) := by decide +kernel
theorem d_Desk_init_35 : decode b_Desk_init 35 = .ok (.invokespecial 27, 3) := by decide +kernel
theorem d_Desk_init_38 : decode b_Desk_init 38 = .ok (.putfield 28, 3) := by decide +kernel
theorem d_Desk_init_41 : decode b_Desk_init 41 = .ok (.aload_n 0, 1) := by decide +kernel
theorem d_Desk_init_42 : decode b_Desk_init 42 = .ok (.iconst 0, 1) := by decide +kernel
theorem d_Desk_init_43 : decode b_Desk_init 43 = .ok (.putfield 32, 3) := by decide +kernel
theorem d_Desk_init_46 : decode b_Desk_init 46 = .ok (.aload_n 0, 1) := by decide +kernel
theorem d_Desk_init_47 : decode b_Desk_init 47 = .ok (.iconst (-1), 1) := by decide +kernel
theorem d_Desk_init_48 : decode b_Desk_init 48 = .ok (.putfield 36, 3) := by decide +kernel
theorem d_Desk_init_51 : decode b_Desk_init 51 = .ok (.return_, 1) := by decide +kernel
theorem d_Desk_type_0 : decode b_Desk_type 0 = .ok (.aload_n 0, 1) := by decide +kernel
theorem d_Desk_type_1 : decode b_Desk_type 1 = .ok (.getfield 10, 3) := by decide +kernel
theorem d_Desk_type_4 : decode b_Desk_type 4 = .ok (.lload_n 1, 1) := by decide +kernel
theorem d_Desk_type_5 : decode b_Desk_type 5 = .ok (.iload_n 3, 1) := by decide +kernel
theorem d_Desk_type_6 : decode b_Desk_type 6 = .ok (.invokevirtual 39, 3) := by decide +kernel
theorem d_Desk_type_9 : decode b_Desk_type 9 = .ok (.ireturn, 1) := by decide +kernel
theorem d_Desk_fault_0 : decode b_Desk_fault 0 = .ok (.aload_n 0, 1) := by decide +kernel
theorem d_Desk_fault_1 : decode b_Desk_fault 1 = .ok (.getfield 36, 3) := by decide +kernel
theorem d_Desk_fault_4 : decode b_Desk_fault 4 = .ok (.ireturn, 1) := by decide +kernel
theorem d_Desk_told_0 : decode b_Desk_told 0 = .ok (.aload_n 0, 1) := by decide +kernel
theorem d_Desk_told_1 : decode b_Desk_told 1 = .ok (.getfield 32, 3) := by decide +kernel
theorem d_Desk_told_4 : decode b_Desk_told 4 = .ok (.ifCond .ne 7, 3) := by decide +kernel
theorem d_Desk_told_7 : decode b_Desk_told 7 = .ok (.iconst (-1), 1) := by decide +kernel
theorem d_Desk_told_8 : decode b_Desk_told 8 = .ok (.goto 11, 3) := by decide +kernel
theorem d_Desk_told_11 : decode b_Desk_told 11 = .ok (.aload_n 0, 1) := by decide +kernel
theorem d_Desk_told_12 : decode b_Desk_told 12 = .ok (.getfield 28, 3) := by decide +kernel
theorem d_Desk_told_15 : decode b_Desk_told 15 = .ok (.iload_n 1, 1) := by decide +kernel
theorem d_Desk_told_16 : decode b_Desk_told 16 = .ok (.invokevirtual 67, 3) := by decide +kernel
theorem d_Desk_told_19 : decode b_Desk_told 19 = .ok (.ireturn, 1) := by decide +kernel
theorem d_Desk_matches_0 : decode b_Desk_matches 0 = .ok (.aload_n 0, 1) := by decide +kernel
theorem d_Desk_matches_1 : decode b_Desk_matches 1 = .ok (.getfield 32, 3) := by decide +kernel
theorem d_Desk_matches_4 : decode b_Desk_matches 4 = .ok (.ifCond .le 18, 3) := by decide +kernel
theorem d_Desk_matches_7 : decode b_Desk_matches 7 = .ok (.aload_n 0, 1) := by decide +kernel
theorem d_Desk_matches_8 : decode b_Desk_matches 8 = .ok (.getfield 28, 3) := by decide +kernel
theorem d_Desk_matches_11 : decode b_Desk_matches 11 = .ok (.iload_n 1, 1) := by decide +kernel
theorem d_Desk_matches_12 : decode b_Desk_matches 12 = .ok (.invokevirtual 71, 3) := by decide +kernel
theorem d_Desk_matches_15 : decode b_Desk_matches 15 = .ok (.ifCond .eq 7, 3) := by decide +kernel
theorem d_Desk_matches_18 : decode b_Desk_matches 18 = .ok (.iconst 1, 1) := by decide +kernel
theorem d_Desk_matches_19 : decode b_Desk_matches 19 = .ok (.goto 4, 3) := by decide +kernel
theorem d_Desk_matches_22 : decode b_Desk_matches 22 = .ok (.iconst 0, 1) := by decide +kernel
theorem d_Desk_matches_23 : decode b_Desk_matches 23 = .ok (.ireturn, 1) := by decide +kernel
theorem d_Desk_bytes_0 : decode b_Desk_bytes 0 = .ok (.aload_n 0, 1) := by decide +kernel
theorem d_Desk_bytes_1 : decode b_Desk_bytes 1 = .ok (.getfield 32, 3) := by decide +kernel
theorem d_Desk_bytes_4 : decode b_Desk_bytes 4 = .ok (.ifCond .eq 14, 3) := by decide +kernel
theorem d_Desk_bytes_7 : decode b_Desk_bytes 7 = .ok (.iload_n 1, 1) := by decide +kernel
theorem d_Desk_bytes_8 : decode b_Desk_bytes 8 = .ok (.ifCond .lt 10, 3) := by decide +kernel
theorem d_Desk_bytes_11 : decode b_Desk_bytes 11 = .ok (.iload_n 1, 1) := by decide +kernel
theorem d_Desk_bytes_12 : decode b_Desk_bytes 12 = .ok (.sipush 255, 3) := by decide +kernel
theorem d_Desk_bytes_15 : decode b_Desk_bytes 15 = .ok (.if_icmp .le 5, 3) := by decide +kernel
theorem d_Desk_bytes_18 : decode b_Desk_bytes 18 = .ok (.iconst (-1), 1) := by decide +kernel
theorem d_Desk_bytes_19 : decode b_Desk_bytes 19 = .ok (.ireturn, 1) := by decide +kernel
theorem d_Desk_bytes_20 : decode b_Desk_bytes 20 = .ok (.aload_n 0, 1) := by decide +kernel
theorem d_Desk_bytes_21 : decode b_Desk_bytes 21 = .ok (.getfield 28, 3) := by decide +kernel
theorem d_Desk_bytes_24 : decode b_Desk_bytes 24 = .ok (.iload_n 1, 1) := by decide +kernel
theorem d_Desk_bytes_25 : decode b_Desk_bytes 25 = .ok (.invokevirtual 74, 3) := by decide +kernel
theorem d_Desk_bytes_28 : decode b_Desk_bytes 28 = .ok (.istore_n 3, 1) := by decide +kernel
theorem d_Desk_bytes_29 : decode b_Desk_bytes 29 = .ok (.aload_n 0, 1) := by decide +kernel
theorem d_Desk_bytes_30 : decode b_Desk_bytes 30 = .ok (.getfield 28, 3) := by decide +kernel
theorem d_Desk_bytes_33 : decode b_Desk_bytes 33 = .ok (.iload_n 1, 1) := by decide +kernel
theorem d_Desk_bytes_34 : decode b_Desk_bytes 34 = .ok (.invokevirtual 77, 3) := by decide +kernel
theorem d_Desk_bytes_37 : decode b_Desk_bytes 37 = .ok (.istore 4, 2) := by decide +kernel
theorem d_Desk_bytes_39 : decode b_Desk_bytes 39 = .ok (.iconst 0, 1) := by decide +kernel
theorem d_Desk_bytes_40 : decode b_Desk_bytes 40 = .ok (.iload 4, 2) := by decide +kernel
theorem d_Desk_bytes_42 : decode b_Desk_bytes 42 = .ok (.iload_n 3, 1) := by decide +kernel
theorem d_Desk_bytes_43 : decode b_Desk_bytes 43 = .ok (.isub, 1) := by decide +kernel
theorem d_Desk_bytes_44 : decode b_Desk_bytes 44 = .ok (.iconst 1, 1) := by decide +kernel
theorem d_Desk_bytes_45 : decode b_Desk_bytes 45 = .ok (.iadd, 1) := by decide +kernel
theorem d_Desk_bytes_46 : decode b_Desk_bytes 46 = .ok (.invokestatic 80, 3) := by decide +kernel
theorem d_Desk_bytes_49 : decode b_Desk_bytes 49 = .ok (.istore 5, 2) := by decide +kernel
theorem d_Desk_bytes_51 : decode b_Desk_bytes 51 = .ok (.iload_n 2, 1) := by decide +kernel
theorem d_Desk_bytes_52 : decode b_Desk_bytes 52 = .ok (.tableswitch 54 0 2 #[28, 39, 51], 28) := by decide +kernel
theorem d_Desk_bytes_80 : decode b_Desk_bytes 80 = .ok (.iload 5, 2) := by decide +kernel
theorem d_Desk_bytes_82 : decode b_Desk_bytes 82 = .ok (.ifCond .ne 7, 3) := by decide +kernel
theorem d_Desk_bytes_85 : decode b_Desk_bytes 85 = .ok (.iconst (-1), 1) := by decide +kernel
theorem d_Desk_bytes_86 : decode b_Desk_bytes 86 = .ok (.goto 4, 3) := by decide +kernel
theorem d_Desk_bytes_89 : decode b_Desk_bytes 89 = .ok (.iload_n 3, 1) := by decide +kernel
theorem d_Desk_bytes_90 : decode b_Desk_bytes 90 = .ok (.ireturn, 1) := by decide +kernel
theorem d_Desk_bytes_91 : decode b_Desk_bytes 91 = .ok (.iload 5, 2) := by decide +kernel
theorem d_Desk_bytes_93 : decode b_Desk_bytes 93 = .ok (.ifCond .ne 7, 3) := by decide +kernel
theorem d_Desk_bytes_96 : decode b_Desk_bytes 96 = .ok (.iconst (-1), 1) := by decide +kernel
theorem d_Desk_bytes_97 : decode b_Desk_bytes 97 = .ok (.goto 5, 3) := by decide +kernel
theorem d_Desk_bytes_100 : decode b_Desk_bytes 100 = .ok (.iload 4, 2) := by decide +kernel
theorem d_Desk_bytes_102 : decode b_Desk_bytes 102 = .ok (.ireturn, 1) := by decide +kernel
theorem d_Desk_bytes_103 : decode b_Desk_bytes 103 = .ok (.iload 5, 2) := by decide +kernel
theorem d_Desk_bytes_105 : decode b_Desk_bytes 105 = .ok (.ireturn, 1) := by decide +kernel
theorem d_Desk_bytes_106 : decode b_Desk_bytes 106 = .ok (.iconst (-1), 1) := by decide +kernel
theorem d_Desk_bytes_107 : decode b_Desk_bytes 107 = .ok (.ireturn, 1) := by decide +kernel
theorem d_Desk_read_0 : decode b_Desk_read 0 = .ok (.iload_n 1, 1) := by decide +kernel
theorem d_Desk_read_1 : decode b_Desk_read 1 = .ok (.ifCond .eq 18, 3) := by decide +kernel
theorem d_Desk_read_4 : decode b_Desk_read 4 = .ok (.iload_n 1, 1) := by decide +kernel
theorem d_Desk_read_5 : decode b_Desk_read 5 = .ok (.iconst 1, 1) := by decide +kernel
theorem d_Desk_read_6 : decode b_Desk_read 6 = .ok (.if_icmp .eq 13, 3) := by decide +kernel
theorem d_Desk_read_9 : decode b_Desk_read 9 = .ok (.new 43, 3) := by decide +kernel
theorem d_Desk_read_12 : decode b_Desk_read 12 = .ok (.dup, 1) := by decide +kernel
theorem d_Desk_read_13 : decode b_Desk_read 13 = .ok (.ldc 45, 2) := by decide +kernel
theorem d_Desk_read_15 : decode b_Desk_read 15 = .ok (.invokespecial 47, 3) := by decide +kernel
theorem d_Desk_read_18 : decode b_Desk_read 18 = .ok (.athrow, 1) := by decide +kernel
theorem d_Desk_read_19 : decode b_Desk_read 19 = .ok (.aload_n 0, 1) := by decide +kernel
theorem d_Desk_read_20 : decode b_Desk_read 20 = .ok (.getfield 21, 3) := by decide +kernel
theorem d_Desk_read_23 : decode b_Desk_read 23 = .ok (.iload_n 1, 1) := by decide +kernel
theorem d_Desk_read_24 : decode b_Desk_read 24 = .ok (.invokevirtual 50, 3) := by decide +kernel
theorem d_Desk_read_27 : decode b_Desk_read 27 = .ok (.istore_n 2, 1) := by decide +kernel
theorem d_Desk_read_28 : decode b_Desk_read 28 = .ok (.aload_n 0, 1) := by decide +kernel
theorem d_Desk_read_29 : decode b_Desk_read 29 = .ok (.getfield 10, 3) := by decide +kernel
theorem d_Desk_read_32 : decode b_Desk_read 32 = .ok (.invokevirtual 54, 3) := by decide +kernel
theorem d_Desk_read_35 : decode b_Desk_read 35 = .ok (.aload_n 0, 1) := by decide +kernel
theorem d_Desk_read_36 : decode b_Desk_read 36 = .ok (.aload_n 0, 1) := by decide +kernel
theorem d_Desk_read_37 : decode b_Desk_read 37 = .ok (.getfield 21, 3) := by decide +kernel
theorem d_Desk_read_40 : decode b_Desk_read 40 = .ok (.invokevirtual 57, 3) := by decide +kernel
theorem d_Desk_read_43 : decode b_Desk_read 43 = .ok (.putfield 36, 3) := by decide +kernel
theorem d_Desk_read_46 : decode b_Desk_read 46 = .ok (.iload_n 2, 1) := by decide +kernel
theorem d_Desk_read_47 : decode b_Desk_read 47 = .ok (.ifCond .ne 13, 3) := by decide +kernel
theorem d_Desk_read_50 : decode b_Desk_read 50 = .ok (.new 43, 3) := by decide +kernel
theorem d_Desk_read_53 : decode b_Desk_read 53 = .ok (.dup, 1) := by decide +kernel
theorem d_Desk_read_54 : decode b_Desk_read 54 = .ok (.ldc 61, 2) := by decide +kernel
theorem d_Desk_read_56 : decode b_Desk_read 56 = .ok (.invokespecial 47, 3) := by decide +kernel
theorem d_Desk_read_59 : decode b_Desk_read 59 = .ok (.athrow, 1) := by decide +kernel
theorem d_Desk_read_60 : decode b_Desk_read 60 = .ok (.aload_n 0, 1) := by decide +kernel
theorem d_Desk_read_61 : decode b_Desk_read 61 = .ok (.aload_n 0, 1) := by decide +kernel
theorem d_Desk_read_62 : decode b_Desk_read 62 = .ok (.getfield 21, 3) := by decide +kernel
theorem d_Desk_read_65 : decode b_Desk_read 65 = .ok (.aload_n 0, 1) := by decide +kernel
theorem d_Desk_read_66 : decode b_Desk_read 66 = .ok (.getfield 28, 3) := by decide +kernel
theorem d_Desk_read_69 : decode b_Desk_read 69 = .ok (.invokevirtual 63, 3) := by decide +kernel
theorem d_Desk_read_72 : decode b_Desk_read 72 = .ok (.putfield 28, 3) := by decide +kernel
theorem d_Desk_read_75 : decode b_Desk_read 75 = .ok (.aload_n 0, 1) := by decide +kernel
theorem d_Desk_read_76 : decode b_Desk_read 76 = .ok (.dup, 1) := by decide +kernel
theorem d_Desk_read_77 : decode b_Desk_read 77 = .ok (.getfield 32, 3) := by decide +kernel
theorem d_Desk_read_80 : decode b_Desk_read 80 = .ok (.iconst 1, 1) := by decide +kernel
theorem d_Desk_read_81 : decode b_Desk_read 81 = .ok (.iadd, 1) := by decide +kernel
theorem d_Desk_read_82 : decode b_Desk_read 82 = .ok (.putfield 32, 3) := by decide +kernel
theorem d_Desk_read_85 : decode b_Desk_read 85 = .ok (.aload_n 0, 1) := by decide +kernel
theorem d_Desk_read_86 : decode b_Desk_read 86 = .ok (.getfield 32, 3) := by decide +kernel
theorem d_Desk_read_89 : decode b_Desk_read 89 = .ok (.ireturn, 1) := by decide +kernel
end
section
/-! THE CLASS AS PURE FUNCTIONS (mine): the reader's registers and rows as one tuple, each method as a function -/
/-- names, kind, place, stuck, number, wordStart, wordEnd, nameStarts, nameEnds, values, versions -/
abbrev RS : Type := Int32 × Int32 × Int32 × Int32 × Int32 × Int32 × Int32 × (Nat → Int32) × (Nat → Int32) × (Nat → Int32) × (Nat → Int32)
def rNm (s : RS) : Int32 := s.1
def rKd (s : RS) : Int32 := s.2.1
def rPl (s : RS) : Int32 := s.2.2.1
def rSk (s : RS) : Int32 := s.2.2.2.1
def rNb (s : RS) : Int32 := s.2.2.2.2.1
def rWs (s : RS) : Int32 := s.2.2.2.2.2.1
def rWe (s : RS) : Int32 := s.2.2.2.2.2.2.1
def rNs (s : RS) : Nat → Int32 := s.2.2.2.2.2.2.2.1
def rNe (s : RS) : Nat → Int32 := s.2.2.2.2.2.2.2.2.1
def rVs (s : RS) : Nat → Int32 := s.2.2.2.2.2.2.2.2.2.1
def rVr (s : RS) : Nat → Int32 := s.2.2.2.2.2.2.2.2.2.2
def sNm (s : RS) (x : Int32) : RS := (x, s.2)
def sKd (s : RS) (x : Int32) : RS := (s.1, x, s.2.2)
def sPl (s : RS) (x : Int32) : RS := (s.1, s.2.1, x, s.2.2.2)
def sSk (s : RS) (x : Int32) : RS := (s.1, s.2.1, s.2.2.1, x, s.2.2.2.2)
def sNb (s : RS) (x : Int32) : RS := (s.1, s.2.1, s.2.2.1, s.2.2.2.1, x, s.2.2.2.2.2)
def sWs (s : RS) (x : Int32) : RS := (s.1, s.2.1, s.2.2.1, s.2.2.2.1, s.2.2.2.2.1, x, s.2.2.2.2.2.2)
def sWe (s : RS) (x : Int32) : RS := (s.1, s.2.1, s.2.2.1, s.2.2.2.1, s.2.2.2.2.1, s.2.2.2.2.2.1, x, s.2.2.2.2.2.2.2)
def sNs (s : RS) (x : Nat → Int32) : RS := (s.1, s.2.1, s.2.2.1, s.2.2.2.1, s.2.2.2.2.1, s.2.2.2.2.2.1, s.2.2.2.2.2.2.1, x, s.2.2.2.2.2.2.2.2)
def sNe (s : RS) (x : Nat → Int32) : RS := (s.1, s.2.1, s.2.2.1, s.2.2.2.1, s.2.2.2.2.1, s.2.2.2.2.2.1, s.2.2.2.2.2.2.1, s.2.2.2.2.2.2.2.1, x, s.2.2.2.2.2.2.2.2.2)
def sVs (s : RS) (x : Nat → Int32) : RS := (s.1, s.2.1, s.2.2.1, s.2.2.2.1, s.2.2.2.2.1, s.2.2.2.2.2.1, s.2.2.2.2.2.2.1, s.2.2.2.2.2.2.2.1, s.2.2.2.2.2.2.2.2.1, x, s.2.2.2.2.2.2.2.2.2.2)
def sVr (s : RS) (x : Nat → Int32) : RS := (s.1, s.2.1, s.2.2.1, s.2.2.2.1, s.2.2.2.2.1, s.2.2.2.2.2.1, s.2.2.2.2.2.2.1, s.2.2.2.2.2.2.2.1, s.2.2.2.2.2.2.2.2.1, s.2.2.2.2.2.2.2.2.2.1, x)
/-- an answer that is a boolean, as the machine has it -/
def bI : Bool → Int32
  | true => 1
  | false => 0
theorem bI_0 {b : Bool} (h : bI b = 0) : b = false := by cases b with | false => rfl | true => exact absurd h (by decide)
theorem bI_1 {b : Bool} (h : ¬ bI b = 0) : b = true := by cases b with | true => rfl | false => exact absurd rfl h
theorem bI_nar (b : Bool) : narrow .boolean (.int (bI b)) = .int (bI b) := by cases b <;> rfl
/-- both, one behind the other -/
def bnd (x : Bool × RS) (k : RS → Bool × RS) : Bool × RS := match x.1 with
  | true => k x.2
  | false => (false, x.2)
theorem bnd_t {x : Bool × RS} {k : RS → Bool × RS} (h : x.1 = true) : bnd x k = k x.2 := by rw [bnd, h]
theorem bnd_f {x : Bool × RS} {k : RS → Bool × RS} (h : x.1 = false) : bnd x k = (false, x.2) := by rw [bnd, h]
/-- the text: the tape's characters and how many -/
abbrev TX : Type := (Nat → Int32) × Int32
def mAt (T : TX) (i : Int32) : Int32 := if i < 0 then -1 else if T.2 ≤ i then -1 else T.1 i.toNatClampNeg
abbrev fMark (T : TX) (s : RS) : Int32 := mAt T (rPl s)
abbrev fStop (s : RS) (w : Int32) : Bool × RS := (false, sSk s w)
abbrev nxt (s : RS) : RS := sPl s (rPl s + 1)
def fSkip (T : TX) (s : RS) (c : Int32) : Bool × RS := if fMark T s = c then (true, nxt s) else (false, s)
def fTake (T : TX) (s : RS) (c : Int32) : Bool × RS := if fMark T s = c then (true, nxt s) else fStop s (rPl s)
def fAll (T : TX) : List Int32 → RS → Bool × RS
  | [], s => (true, s)
  | c :: cs, s => if fMark T s = c then fAll T cs (nxt s) else fStop s (rPl s)
def isD (c : Int32) : Bool := if c < 48 then false else if 57 < c then false else true
def isL (c : Int32) : Bool := if c < 97 then (if c = 45 then true else false) else if c ≤ 122 then true else (if c = 45 then true else false)
abbrev numS (T : TX) (s : RS) : RS := sPl (sNb s (rNb s * 10 + (fMark T s - 48))) (rPl s + 1)
def fNumL (T : TX) : Nat → RS → RS
  | 0, s => s
  | k + 1, s => if isD (fMark T s) = true then fNumL T k (numS T s) else s
def fNumE (s : RS) (start most : Int32) : Bool × RS := if rPl s = start then fStop s (rPl s) else if rNb s ≤ most then (true, s) else fStop s start
def fNum (T : TX) (s : RS) (most : Int32) : Bool × RS := fNumE (fNumL T 5 (sNb s 0)) (rPl s) most
def fLetL (T : TX) : Nat → RS → RS
  | 0, s => s
  | k + 1, s => if isL (fMark T s) = true then fLetL T k (nxt s) else s
def fLetE (s : RS) (most : Int32) : Bool × RS := if rPl s = rWs s then fStop (sWe s (rPl s)) (rPl s) else if rPl s - rWs s ≤ most then (true, sWe s (rPl s)) else fStop (sWe s (rPl s)) (rWs s)
def fLet (T : TX) (s : RS) (most : Nat) : Bool × RS := fLetE (fLetL T (most + 1) (sWs s (rPl s))) (nI most)
def wEq (T : TX) (a : Int32) : List Int32 → Nat → Bool
  | [], _ => true
  | c :: cs, j => if mAt T (a + nI j) = c then wEq T a cs (j + 1) else false
def fIsW (T : TX) (s : RS) (w : List Int32) : Bool := if rWe s - rWs s = nI w.length then wEq T (rWs s) w 0 else false
def eqL (T : TX) (a b : Int32) : Nat → Nat → Bool
  | 0, _ => true
  | k + 1, j => if mAt T (a + nI j) = mAt T (b + nI j) then eqL T a b k (j + 1) else false
def fIsF (T : TX) (s : RS) (a b : Int32) : Bool := if rWe s - rWs s = b - a then eqL T (rWs s) a (b - a).toNatClampNeg 0 else false
def wasL (T : TX) (s : RS) : Nat → Nat → Bool
  | 0, _ => false
  | k + 1, i => if rNm s ≤ nI i then false else if fIsF T s (rNs s i) (rNe s i) = true then true else wasL T s k (i + 1)
abbrev fWas (T : TX) (s : RS) : Bool := wasL T s 100 0
abbrev addN (s : RS) : RS := sNm (sNe (sNs s (upd (rNs s) (rNm s).toNatClampNeg (rWs s))) (upd (rNe s) (rNm s).toNatClampNeg (rWe s))) (rNm s + 1)
def fNamE (T : TX) (s : RS) : Bool × RS := if 100 ≤ rNm s then fStop s (rWs s) else if fWas T s = true then fStop s (rWs s) else (true, addN s)
def fNam (T : TX) (s : RS) : Bool × RS := bnd (fLet T s 20) (fun s => bnd (fTake T s 58) (fun s => fNamE T s))
def fAnyL (T : TX) : Nat → RS → RS
  | 0, s => s
  | k + 1, s => if fMark T s = -1 then s else if fMark T s = 10 then s else fAnyL T k (nxt s)
/-- a Head's rows -/
def hSet (v : Nat → Int32) (what x : Int32) : Nat → Int32 := if what < 0 then v else if 18 ≤ what then v else upd v what.toNatClampNeg x
abbrev hRng (v : Nat → Int32) (a b c : Int32) : Nat → Int32 := upd (upd (upd v 3 a) 4 b) 5 c
abbrev hKey (v : Nat → Int32) (c : Int32) : Nat → Int32 := upd v 9 (v 9 ||| ((1 : Int32) <<< ((c - 97) &&& 31)))
def hasL (v r : Nat → Int32) (x : Int32) : Nat → Nat → Bool
  | 0, _ => false
  | k + 1, i => if v 7 ≤ nI i then false else if r i = x then true else hasL v r x k (i + 1)
abbrev hHas (v r : Nat → Int32) (x : Int32) : Bool := hasL v r x 8 0
def hAdd (v r : Nat → Int32) (x : Int32) : (Nat → Int32) × (Nat → Int32) := if hHas v r x = true then (v, r) else if v 7 < 0 then (v, r) else if 8 ≤ v 7 then (v, r) else (upd v 7 (v 7 + 1), upd r (v 7).toNatClampNeg x)
abbrev dSet (s : RS) (what x : Int32) : RS := sVs s (hSet (rVs s) what x)
abbrev dAdd (s : RS) (x : Int32) : RS := sVr (sVs s (hAdd (rVs s) (rVr s) x).1) (hAdd (rVs s) (rVr s) x).2
/-- the range -/
def fRngE (T : TX) (s : RS) (from0 : Int32) : Bool × RS := bnd (fTake T s 45) (fun s => if isD (fMark T s) = true then bnd (fNum T s 99999) (fun s => if rNb s < from0 then (true, s) else (true, sVs s (hRng (rVs s) 1 from0 (rNb s)))) else (true, sVs s (hRng (rVs s) 2 from0 (-1))))
def fRng (T : TX) (s : RS) (w : List Int32) : Bool × RS := bnd (fAll T w s) (fun s => bnd (fNum T (fSkip T s 45).2 99999) (fun s2 => if (fSkip T s 45).1 = true then (true, sVs s2 (hRng (rVs s2) 3 (rNb s2) (-1))) else fRngE T s2 (rNb s2)))
/-- if-none-match, from the i-th number on -/
def fVerL (T : TX) : Nat → RS → Bool × RS
  | 0, s => (true, s)
  | k + 1, s => bnd (fTake T s 34) (fun s => bnd (fNum T s 99999) (fun s => bnd (fTake T s 34) (fun s => if k = 0 then (true, dAdd s (rNb s)) else if (fSkip T (dAdd s (rNb s)) 44).1 = true then bnd (fTake T (fSkip T (dAdd s (rNb s)) 44).2 32) (fun s => fVerL T k s) else (true, (fSkip T (dAdd s (rNb s)) 44).2))))
def fVer (T : TX) (s : RS) : Bool × RS := if (fSkip T s 42).1 = true then (true, dSet (fSkip T s 42).2 6 1) else fVerL T 8 (fSkip T s 42).2
def fLen (T : TX) (s : RS) : Bool × RS := bnd (fNum T s 255) (fun s => (true, dSet s 8 (rNb s)))
abbrev keyS (T : TX) (s : RS) : RS := nxt (sVs s (hKey (rVs s) (fMark T s)))
def fKeyL (T : TX) : Nat → RS → Bool × RS
  | 0, s => (true, s)
  | k + 1, s => if fMark T s < 97 then fStop s (rPl s) else if fMark T s ≤ 104 then (if k = 0 then (true, keyS T s) else if (fSkip T (keyS T s) 32).1 = true then fKeyL T k (fSkip T (keyS T s) 32).2 else (true, (fSkip T (keyS T s) 32).2)) else fStop s (rPl s)
/-- cache-control -/
def fBare (T : TX) (s : RS) : RS := if fIsW T s t_no_cache = true then dSet s 10 1 else if rKd s = 1 then (if fIsW T s t_no_store = true then dSet s 15 1 else s) else if fIsW T s t_only_if_cached = true then dSet s 11 1 else if fIsW T s t_max_stale = true then dSet s 13 (-2) else s
def fWith (T : TX) (s : RS) : RS := if fIsW T s t_max_age = true then dSet s 12 (rNb s) else if rKd s = 1 then (if fIsW T s t_stale_if_error = true then dSet s 16 (rNb s) else if fIsW T s t_stale_while_revalidate = true then dSet s 17 (rNb s) else s) else if fIsW T s t_max_stale = true then dSet s 13 (rNb s) else if fIsW T s t_min_fresh = true then dSet s 14 (rNb s) else s
def lisE (T : TX) (k : RS → Bool × RS) (s : RS) : Bool × RS := if (fSkip T s 44).1 = true then bnd (fTake T (fSkip T s 44).2 32) k else (true, (fSkip T s 44).2)
def fLisL (T : TX) : Nat → RS → Bool × RS
  | 0, s => fStop s (rPl s)
  | k + 1, s => bnd (fLet T s 30) (fun s => if (fSkip T s 61).1 = true then bnd (fNum T (fSkip T s 61).2 99999) (fun s => lisE T (fun s => fLisL T k s) (fWith T s)) else lisE T (fun s => fLisL T k s) (fBare T (fSkip T s 61).2))
/-- a VALUE -/
def fValE (T : TX) (s : RS) : Bool × RS := if fIsW T s t_cache_control = true then fLisL T 300 s else if rKd s = 0 then (if fIsW T s t_range = true then fRng T s t_bytes else if fIsW T s t_if_none_match = true then fVer T s else (true, fAnyL T 300 s)) else if rKd s = 1 then (if fIsW T s t_length = true then fLen T s else if fIsW T s t_keys = true then fKeyL T 8 s else (true, fAnyL T 300 s)) else (true, fAnyL T 300 s)
abbrev fVal (T : TX) (s : RS) : Bool × RS := fValE T (fSkip T s 32).2
/-- the first LINE -/
def fVerb (T : TX) (s : RS) : Bool × RS := if rKd s = 1 then fAll T t_PUT (dSet s 0 3) else if fMark T s = 72 then fAll T t_HEAD (dSet s 0 2) else fAll T t_GET (dSet s 0 1)
def fTgtE (T : TX) (s : RS) : Bool × RS := if rKd s = 1 then (true, s) else if (fSkip T s 47).1 = true then bnd (fNum T (fSkip T s 47).2 3) (fun s => (true, dSet s 2 (rNb s))) else (true, (fSkip T s 47).2)
def fTgt (T : TX) (s : RS) : Bool × RS := bnd (fNum T s 31) (fun s => fTgtE T (dSet s 1 (rNb s)))
def fFst (T : TX) (s : RS) : Bool × RS := bnd (fVerb T s) (fun s => bnd (fTake T s 32) (fun s => bnd (fTake T s 47) (fun s => bnd (fTgt T s) (fun s => bnd (fTake T s 10) (fun s => (true, s))))))
/-- the whole TEXT -/
def fEnd (T : TX) (s : RS) : Bool × RS := if fMark T s = -1 then (true, s) else fStop s (rPl s)
def fTxtL (T : TX) : Nat → RS → Bool × RS
  | 0, s => fStop s (rPl s)
  | k + 1, s => if (fSkip T s 10).1 = true then fEnd T (fSkip T s 10).2 else bnd (fNam T (fSkip T s 10).2) (fun s => bnd (fVal T s) (fun s => bnd (fTake T s 10) (fun s => fTxtL T k s)))
def at0 (k : Nat) : Int32 := ([0, 0, 0, 0, -1, -1, 0, 0, 0, 0, 0, 0, -1, -1, -1, 0, -1, -1] : List Int32).getD k 0
def fTxt (T : TX) (s : RS) (kd : Int32) : Bool × RS := bnd (fFst T (sVs (sSk (sPl (sNm (sKd s kd) 0) 0) (-1)) (va_cpy at0 (rVs s) 0 0 18))) (fun s => fTxtL T 101 s)
/-- typing -/
def byW (w : Int64) (i : Int32) : Int32 := ((w.toUInt64 >>> ((8 * i).toInt64.toUInt64 &&& Int64.toUInt64 63)).toInt64).toInt32 &&& 255
def mayS (c : Int32) : Bool := if c = 10 then true else if c < 32 then false else if 126 < c then false else true
def appOk (w : Int64) : Nat → Nat → Bool
  | 0, _ => true
  | k + 1, i => if mayS (byW w (nI i)) = true then appOk w k (i + 1) else false
def appW (w : Int64) : Nat → TX → TX
  | 0, T => T
  | k + 1, T => appW w k (upd T.1 T.2.toNatClampNeg (vp_nar .char ((byW w (nI k)).toUInt32 % 65536).toInt32), T.2 + 1)
def fApp (T : TX) (w : Int64) (n : Int32) : Bool × TX := if n < 1 then (false, T) else if 8 < n then (false, T) else if n ≤ 300 - T.2 then (if appOk w n.toNatClampNeg 0 = true then (true, appW w n.toNatClampNeg T) else (false, T)) else (false, T)
/-- a Head's answers -/
def hGet (v : Nat → Int32) (what : Int32) : Int32 := if what < 0 then -1 else if 18 ≤ what then -1 else v what.toNatClampNeg
def hCov (v r : Nat → Int32) (x : Int32) : Bool := if v 6 = 1 then true else if hHas v r x = true then true else false
def iMin (x y : Int32) : Int32 := if y < x then y else x
def iMax (x y : Int32) : Int32 := if x < y then y else x
def hFst (v : Nat → Int32) (len : Int32) : Int32 := if v 3 = 1 then v 4 else if v 3 = 2 then v 4 else if v 3 = 3 then len - iMin (v 4) len else 0
def hLst (v : Nat → Int32) (len : Int32) : Int32 := if v 3 = 1 then iMin (v 5) (len - 1) else len - 1
end
section
/-! small rows: numbers, places -/
theorem nI_gno {b : Int32} {j N : Nat} (hb : b = nI N) (h : j < N) (hN : N < 2 ^ 31) : ¬ b ≤ nI j := by subst hb; exact nI_ge h hN
theorem nI_gyes {b : Int32} {j N : Nat} (hb : b = nI N) (h : N ≤ j) (hj : j < 2 ^ 31) : b ≤ nI j := by subst hb; exact nI_le h hj
theorem nI_tno {b : Int32} {j N : Nat} (hb : b = nI N) (h : j ≤ N) (hN : N < 2 ^ 31) : ¬ b < nI j := by subst hb; exact nI_nlt h hN
theorem nI_tyes {b : Int32} {j N : Nat} (hb : b = nI N) (h : N < j) (hj : j < 2 ^ 31) : b < nI j := by subst hb; exact nI_lt h hj
theorem nI_k0 {b : Int32} {j k N : Nat} (hb : b = nI N) (h : j + (k + 1) = N + 1) (hN : N < 2 ^ 31) (c : nI j = b) : k = 0 := by
  subst hb
  have q := (nI_eq (a := j) (b := N) (by omega) hN).mp c
  omega
theorem nI_k1 {b : Int32} {j N : Nat} (hb : b = nI N) (h : j = N) : nI j = b := by rw [hb, h]
theorem i_lt {a b : Int32} : a < b ↔ a.toInt < b.toInt := Int32.lt_iff_toInt_lt
theorem i_le {a b : Int32} : a ≤ b ↔ a.toInt ≤ b.toInt := Int32.le_iff_toInt_le
theorem cl_le (x : Int32) : x.toNatClampNeg < 2 ^ 31 := by
  have h : x.toInt < 2 ^ 31 := Int32.toInt_lt x
  show x.toInt.toNat < 2 ^ 31
  omega
theorem nI_cno {x : Int32} {j : Nat} (h : j < x.toNatClampNeg) : ¬ x ≤ nI j := by
  have h0 := cl_le x
  have h1 : j < x.toInt.toNat := h
  rw [i_le, nI_toInt (by omega)]
  omega
theorem nI_cyes {x : Int32} {j : Nat} (h : x.toNatClampNeg ≤ j) (hj : j < 2 ^ 31) : x ≤ nI j := by
  have h1 : x.toInt.toNat ≤ j := h
  rw [i_le, nI_toInt hj]
  omega
theorem mAt_in {T : TX} {i : Int32} (hT : T.2 ≤ 300) (h0 : ¬ i < 0) (h1 : ¬ T.2 ≤ i) : vp_in i 300 := by
  rw [i_le] at hT h1
  rw [i_lt] at h0
  have e0 : (0 : Int32).toInt = 0 := by decide
  have e3 : (300 : Int32).toInt = 300 := by decide
  rw [e0] at h0
  rw [e3] at hT
  exact vp_in_iff.mpr ⟨by omega, by omega⟩
theorem hix {i b : Int32} {N : Nat} (hb : b.toInt = N) (h0 : ¬ i < 0) (h1 : ¬ b ≤ i) : vp_in i N := by
  rw [i_le, hb] at h1
  rw [i_lt] at h0
  have e0 : (0 : Int32).toInt = 0 := by decide
  rw [e0] at h0
  exact vp_in_iff.mpr ⟨by omega, by omega⟩
theorem hix18 {i : Int32} (h0 : ¬ i < 0) (h1 : ¬ (18 : Int32) ≤ i) : vp_in i 18 := hix (b := 18) (by decide) h0 h1
theorem hix8 {i : Int32} (h0 : ¬ i < 0) (h1 : ¬ (8 : Int32) ≤ i) : vp_in i 8 := hix (b := 8) (by decide) h0 h1
theorem hixN {i : Int32} (h0 : 0 ≤ i) (h1 : ¬ (100 : Int32) ≤ i) : vp_in i 100 := hix (b := 100) (by decide) (fun h => by rw [i_le] at h0; rw [i_lt] at h; omega) h1
/-- the literals -/
def sw (i : Nat) : List Int32 := bytJS.getD i []
theorem sw_all : ∀ i, i < nJS → ((sw i).length < 100 ∧ lenJS.getD i 0 = (sw i).length ∧ ∀ b ∈ sw i, (b &&& 255).toUInt32 % 65536 = b.toUInt32 ∧ b.toInt8.toInt32 = b ∧ b &&& 255 = b) := by decide +kernel
theorem sw_len {i : Nat} (hi : i < nJS) : (sw i).length < 100 := (sw_all i hi).1
theorem sw_nil {i j : Nat} (h : (sw i).length ≤ j) : (sw i).drop j = [] := List.drop_eq_nil_iff.mpr h
theorem sw_cons {i j : Nat} (h : j < (sw i).length) : (sw i).drop j = (sw i).getD j 0 :: (sw i).drop (j + 1) := by
  rw [List.drop_eq_getElem_cons h]
  congr 1
  simp [List.getD, h]
theorem sw_mem {i j : Nat} (hj : j < (sw i).length) : (sw i).getD j 0 ∈ sw i := by
  have e : (sw i).getD j 0 = (sw i)[j] := by simp [List.getD, hj]
  rw [e]
  exact List.getElem_mem hj
theorem sw_c {i j : Nat} (hi : i < nJS) (hj : j < (sw i).length) : (((sw i).getD j 0 &&& 255).toUInt32 % 65536).toInt32 = (sw i).getD j 0 := by
  rw [((sw_all i hi).2.2 _ (sw_mem hj)).1]
  rfl
theorem sw_nar {i j : Nat} (hi : i < nJS) (hj : j < (sw i).length) : narrow .char (.int ((sw i).getD j 0)) = .int ((sw i).getD j 0) := by
  rw [← sw_c hi hj]
  exact pk_nc _
/-! how many NAMES there are stays, but for readName -/
theorem nm_skip (T : TX) (s : RS) (c : Int32) : rNm (fSkip T s c).2 = rNm s := by unfold fSkip; split <;> rfl
theorem nm_take (T : TX) (s : RS) (c : Int32) : rNm (fTake T s c).2 = rNm s := by unfold fTake; split <;> rfl
theorem nm_all (T : TX) : ∀ (w : List Int32) (s : RS), rNm (fAll T w s).2 = rNm s := by
  intro w
  induction w with
  | nil => intro s; rfl
  | cons c cs ih => intro s; unfold fAll; split
                    · rw [ih]; rfl
                    · rfl
theorem nm_numL (T : TX) : ∀ (k : Nat) (s : RS), rNm (fNumL T k s) = rNm s := by
  intro k
  induction k with
  | zero => intro s; rfl
  | succ k ih => intro s; unfold fNumL; split
                 · rw [ih]; rfl
                 · rfl
theorem nm_num (T : TX) (s : RS) (m : Int32) : rNm (fNum T s m).2 = rNm s := by
  have h := nm_numL T 5 (sNb s 0)
  unfold fNum fNumE
  split
  · exact h
  · split <;> exact h
theorem nm_letL (T : TX) : ∀ (k : Nat) (s : RS), rNm (fLetL T k s) = rNm s := by
  intro k
  induction k with
  | zero => intro s; rfl
  | succ k ih => intro s; unfold fLetL; split
                 · rw [ih]; rfl
                 · rfl
theorem nm_let (T : TX) (s : RS) (m : Nat) : rNm (fLet T s m).2 = rNm s := by
  have h := nm_letL T (m + 1) (sWs s (rPl s))
  unfold fLet fLetE
  split
  · exact h
  · split <;> exact h
theorem nm_anyL (T : TX) : ∀ (k : Nat) (s : RS), rNm (fAnyL T k s) = rNm s := by
  intro k
  induction k with
  | zero => intro s; rfl
  | succ k ih => intro s; unfold fAnyL; split
                 · rfl
                 · split
                   · rfl
                   · rw [ih]; rfl
theorem nm_bnd {x : Bool × RS} {k : RS → Bool × RS} {n : Int32} (h1 : rNm x.2 = n) (h2 : ∀ s, rNm s = n → rNm (k s).2 = n) : rNm (bnd x k).2 = n := by
  unfold bnd
  cases x.1 with
  | true => exact h2 _ h1
  | false => exact h1
theorem nm_rng (T : TX) (s : RS) (w : List Int32) : rNm (fRng T s w).2 = rNm s := by
  unfold fRng
  refine nm_bnd (nm_all T w s) (fun s1 h1 => nm_bnd (by rw [nm_num, nm_skip, h1]) (fun s2 h2 => ?_))
  split
  · exact h2
  · unfold fRngE
    refine nm_bnd (by rw [nm_take, h2]) (fun s3 h3 => ?_)
    split
    · refine nm_bnd (by rw [nm_num, h3]) (fun s4 h4 => ?_)
      split <;> exact h4
    · exact h3
theorem nm_verL (T : TX) : ∀ (k : Nat) (s : RS), rNm (fVerL T k s).2 = rNm s := by
  intro k
  induction k with
  | zero => intro s; rfl
  | succ k ih =>
    intro s
    unfold fVerL
    refine nm_bnd (nm_take T s 34) (fun s1 h1 => nm_bnd (by rw [nm_num, h1]) (fun s2 h2 => nm_bnd (by rw [nm_take, h2]) (fun s3 h3 => ?_)))
    split
    · exact h3
    · split
      · exact nm_bnd (by rw [nm_take, nm_skip]; exact h3) (fun s4 h4 => by rw [ih, h4])
      · rw [nm_skip]; exact h3
theorem nm_ver (T : TX) (s : RS) : rNm (fVer T s).2 = rNm s := by
  unfold fVer
  split
  · exact nm_skip T s 42
  · rw [nm_verL, nm_skip]
theorem nm_len (T : TX) (s : RS) : rNm (fLen T s).2 = rNm s := by
  unfold fLen
  exact nm_bnd (nm_num T s 255) (fun s1 h1 => h1)
theorem nm_keyL (T : TX) : ∀ (k : Nat) (s : RS), rNm (fKeyL T k s).2 = rNm s := by
  intro k
  induction k with
  | zero => intro s; rfl
  | succ k ih =>
    intro s
    unfold fKeyL
    split
    · rfl
    · split
      · split
        · rfl
        · split
          · rw [ih, nm_skip]; rfl
          · rw [nm_skip]; rfl
      · rfl
theorem nm_bare (T : TX) (s : RS) : rNm (fBare T s) = rNm s := by unfold fBare; repeat' split
                                                                  all_goals rfl
theorem nm_with (T : TX) (s : RS) : rNm (fWith T s) = rNm s := by unfold fWith; repeat' split
                                                                  all_goals rfl
theorem nm_lisE {T : TX} {k : RS → Bool × RS} {s : RS} {n : Int32} (h : rNm s = n) (hk : ∀ s, rNm s = n → rNm (k s).2 = n) : rNm (lisE T k s).2 = n := by
  unfold lisE
  split
  · exact nm_bnd (by rw [nm_take, nm_skip, h]) hk
  · rw [nm_skip, h]
theorem nm_lisL (T : TX) : ∀ (k : Nat) (s : RS), rNm (fLisL T k s).2 = rNm s := by
  intro k
  induction k with
  | zero => intro s; rfl
  | succ k ih =>
    intro s
    unfold fLisL
    refine nm_bnd (nm_let T s 30) (fun s1 h1 => ?_)
    split
    · exact nm_bnd (by rw [nm_num, nm_skip, h1]) (fun s2 h2 => nm_lisE (by rw [nm_with, h2]) (fun s3 h3 => by rw [ih, h3]))
    · exact nm_lisE (by rw [nm_bare, nm_skip, h1]) (fun s3 h3 => by rw [ih, h3])
theorem nm_val (T : TX) (s : RS) : rNm (fVal T s).2 = rNm s := by
  have h := nm_skip T s 32
  show rNm (fValE T (fSkip T s 32).2).2 = rNm s
  rw [← h]
  generalize (fSkip T s 32).2 = s1
  unfold fValE
  split
  · exact nm_lisL T 300 s1
  · split
    · split
      · exact nm_rng T s1 _
      · split
        · exact nm_ver T s1
        · exact nm_anyL T 300 s1
    · split
      · split
        · exact nm_len T s1
        · split
          · exact nm_keyL T 8 s1
          · exact nm_anyL T 300 s1
      · exact nm_anyL T 300 s1
theorem nm_namE (T : TX) (s : RS) (h : 0 ≤ rNm s) : 0 ≤ rNm (fNamE T s).2 := by
  unfold fNamE
  split
  · exact h
  · rename_i h1
    split
    · exact h
    · show 0 ≤ rNm s + 1
      rw [i_le] at h h1 ⊢
      have e0 : (0 : Int32).toInt = 0 := by decide
      have e1 : (100 : Int32).toInt = 100 := by decide
      have e2 : (1 : Int32).toInt = 1 := by decide
      rw [e0] at h ⊢
      rw [e1] at h1
      rw [Int32.toInt_add, e2]
      rw [Int.bmod_eq_of_le (by omega) (by omega)]
      omega
theorem ge_bnd {x : Bool × RS} {k : RS → Bool × RS} (h1 : 0 ≤ rNm x.2) (h2 : ∀ s, 0 ≤ rNm s → 0 ≤ rNm (k s).2) : 0 ≤ rNm (bnd x k).2 := by
  unfold bnd
  cases x.1 with
  | true => exact h2 _ h1
  | false => exact h1
theorem nm_nam (T : TX) (s : RS) (h : 0 ≤ rNm s) : 0 ≤ rNm (fNam T s).2 := by
  unfold fNam
  exact ge_bnd (by rw [nm_let]; exact h) (fun s1 h1 => ge_bnd (by rw [nm_take]; exact h1) (fun s2 h2 => nm_namE T s2 h2))
theorem nm_verb (T : TX) (s : RS) : rNm (fVerb T s).2 = rNm s := by
  unfold fVerb
  split
  · rw [nm_all]; rfl
  · split
    · rw [nm_all]; rfl
    · rw [nm_all]; rfl
theorem nm_tgt (T : TX) (s : RS) : rNm (fTgt T s).2 = rNm s := by
  unfold fTgt
  refine nm_bnd (nm_num T s 31) (fun s1 h1 => ?_)
  unfold fTgtE
  split
  · exact h1
  · split
    · exact nm_bnd (by rw [nm_num, nm_skip]; exact h1) (fun s2 h2 => h2)
    · rw [nm_skip]; exact h1
theorem nm_fst (T : TX) (s : RS) : rNm (fFst T s).2 = rNm s := by
  unfold fFst
  exact nm_bnd (nm_verb T s) (fun s1 h1 => nm_bnd (by rw [nm_take, h1]) (fun s2 h2 => nm_bnd (by rw [nm_take, h2]) (fun s3 h3 => nm_bnd (by rw [nm_tgt, h3]) (fun s4 h4 => nm_bnd (by rw [nm_take, h4]) (fun s5 h5 => h5)))))
theorem i_m1 (x : Int32) : x + Int32.ofInt (-1) = x - 1 := by
  rw [Int32.sub_eq_add_neg]
  rfl
/-- typing: how the length grows stays in its room -/
theorem ap_in {x : Int32} {k : Nat} (h0 : 0 ≤ x) (h : x.toInt + ((k + 1 : Nat) : Int) ≤ 300) : vp_in x 300 := by
  rw [i_le] at h0
  have e0 : (0 : Int32).toInt = 0 := by decide
  rw [e0] at h0
  exact vp_in_iff.mpr ⟨h0, by omega⟩
theorem ap_k {x : Int32} {k : Nat} (h0 : 0 ≤ x) (h : x.toInt + ((k + 1 : Nat) : Int) ≤ 300) : k < 2 ^ 31 := by
  rw [i_le] at h0
  have e0 : (0 : Int32).toInt = 0 := by decide
  rw [e0] at h0
  omega
theorem ap_nx {x : Int32} {k : Nat} (h0 : 0 ≤ x) (h : x.toInt + ((k + 1 : Nat) : Int) ≤ 300) : 0 ≤ x + 1 ∧ (x + 1).toInt + (k : Int) ≤ 300 := by
  rw [i_le] at h0
  have e0 : (0 : Int32).toInt = 0 := by decide
  have e1 : (1 : Int32).toInt = 1 := by decide
  rw [e0] at h0
  have e : (x + 1).toInt = x.toInt + 1 := by
    rw [Int32.toInt_add, e1, Int.bmod_eq_of_le (by omega) (by omega)]
  rw [i_le, e0, e]
  omega
theorem ap_st {n x : Int32} (h1 : ¬ n < 1) (h8 : ¬ 8 < n) (h0 : 0 ≤ x) (h3 : x ≤ 300) (h : n ≤ 300 - x) : x.toInt + (n.toNatClampNeg : Int) ≤ 300 ∧ n = nI n.toNatClampNeg ∧ n.toNatClampNeg ≤ 8 := by
  rw [i_lt] at h1 h8
  rw [i_le] at h0 h h3
  have e0 : (0 : Int32).toInt = 0 := by decide
  have e1 : (1 : Int32).toInt = 1 := by decide
  have e8 : (8 : Int32).toInt = 8 := by decide
  have e3 : (300 : Int32).toInt = 300 := by decide
  rw [e0] at h0
  rw [e1] at h1
  rw [e8] at h8
  rw [e3] at h3
  have ec : (n.toNatClampNeg : Int) = n.toInt := by
    show ((n.toInt.toNat : Nat) : Int) = n.toInt
    omega
  have e : (300 - x).toInt = 300 - x.toInt := by
    rw [Int32.toInt_sub, e3, Int.bmod_eq_of_le (by omega) (by omega)]
  rw [e] at h
  refine ⟨by omega, ?_, by omega⟩
  apply Int32.toInt_inj.mp
  rw [nI_toInt (by omega), ec]
end
section
/-! MY FRAME: contracts of one form, one row for a call, one row for a return -/
theorem hx_fm {α β : Type} {f : α → Option β} : ∀ (is : List α) (L : List β), is.map f = L.map some → is.filterMap f = L := by
  intro is
  induction is with
  | nil => intro L h; cases L with | nil => rfl | cons b L => cases h
  | cons a is ih =>
    intro L h
    cases L with
    | nil => cases h
    | cons b L =>
      simp only [List.map_cons, List.cons.injEq] at h
      rw [List.filterMap_cons, h.1]
      simp only [ih L h.2]
/-- the literals, by their places (two places may be one object) -/
def hx_S (adK adV : Nat → Nat) (A : Nat → Prop) (U : State) (H : Heap) : Prop := ∀ i : Nat, i < nJS → va_O "java/lang/String" (adK i) A U H ∧ va_OF "java/lang/String" "coder" "B" (.int 0) (adK i) A U H ∧ va_OF "java/lang/String" "value" "[B" (.ref (adV i)) (adK i) A U H ∧ va_T .byte (adV i) (lenJS.getD i 0) (fun j => .int ((bytJS.getD i []).getD j 0)) A U H
theorem hx_S.moved {adK adV : Nat → Nat} {A : Nat → Prop} {u U : State} {H : Heap} (hvm : u.vm.Alike U.vm) (h : hx_S adK adV A u H) : hx_S adK adV A U H := fun i hi => ⟨va_O.moved hvm (h i hi).1, va_OF.moved hvm (h i hi).2.1, va_OF.moved hvm (h i hi).2.2.1, va_T.moved hvm (h i hi).2.2.2⟩
theorem hx_S.kept {adK adV : Nat → Nat} {A : Nat → Prop} {U : State} {H H1 : Heap} (h : hx_S adK adV A U H) (hq : ∀ a : Nat, a < H.size → ¬ A a → H1[a]? = H[a]?) : hx_S adK adV A U H1 := fun i hi => ⟨(h i hi).1.kept hq, (h i hi).2.1.kept hq, (h i hi).2.2.1.kept hq, (h i hi).2.2.2.kept hq⟩
theorem hx_S.narrow {adK adV : Nat → Nat} {A B : Nat → Prop} {U : State} {H : Heap} (h : hx_S adK adV A U H) (hAB : ∀ q, B q → A q) : hx_S adK adV B U H := fun i hi => ⟨(h i hi).1.narrow hAB, (h i hi).2.1.narrow hAB, (h i hi).2.2.1.narrow hAB, (h i hi).2.2.2.narrow hAB⟩
/-- what a method relies on and never changes: the classes, the literals, the given statics -/
def hx_X (D : va_G) (tys : List (ClassId × FieldType)) (adK adV : Nat → Nat) (tF : Nat) (A : Nat → Prop) (U : State) (H : Heap) : Prop :=
  va_K D vwCl tys U ∧ hx_S adK adV A U H ∧ va_Z "HeadDesk$Head" "AT_FIRST" "[I" (.ref tF) A U H ∧ va_T .int tF 18 (fun k => .int (at0 k)) A U H ∧ va_Z "java/lang/String" "COMPACT_STRINGS" "Z" (.int 1) A U H ∧ (∀ (own : String) (k : Nat) (tx : String) (i : Nat), (own, k, tx, i) ∈ hx_strs → vk_R own k tx (adK i) U) ∧ va_Zq "jdk/internal/util/Preconditions" "SIOOBE_FORMATTER" "Ljava/util/function/BiFunction;" A U H ∧ vx_Zq Bundle.tN "UNASSIGNED_STACK" Bundle.steD A U H ∧ vx_Zq Bundle.tN "SUPPRESSED_SENTINEL" Bundle.listD A U H
theorem hx_X.call {D : va_G} {tys : List (ClassId × FieldType)} {adK adV : Nat → Nat} {tF : Nat} {A A' : Nat → Prop} {s U : State} {H : Heap} {locs : List Loc} (h : hx_X D tys adK adV tF A s s.heap) (hS : va_S A s.heap H locs) (hAB : ∀ q, A' q → A q) (hU : U.heap = H) (hW : s.WarmedH U.vm) : hx_X D tys adK adV tF A' U U.heap := by
  obtain ⟨hK, hE, hZ, hT, hZ2, hR, hQ, hV, hN⟩ := h
  rw [hU]
  exact ⟨va_K.moved hW.alike hK, (hx_S.moved hW.alike (hE.kept hS.2.1)).narrow hAB, (va_Z.moved hW.alike (hZ.kept hS.2.1)).narrow hAB, (va_T.moved hW.alike (hT.kept hS.2.1)).narrow hAB, (va_Z.moved hW.alike (hZ2.kept hS.2.1)).narrow hAB, fun own k tx i hq => (hR own k tx i hq).warm hW, (va_Zq.moved hW.alike (hQ.kept hS.2.1)).narrow hAB, (vx_Zq.moved hW.alike (hV.kept hS.2.1)).narrow hAB, (vx_Zq.moved hW.alike (hN.kept hS.2.1)).narrow hAB⟩
theorem hx_X.blind {D : va_G} {tys : List (ClassId × FieldType)} {adK adV : Nat → Nat} {tF : Nat} {A : Nat → Prop} {U : State} (h : hx_X D tys adK adV tF A U U.heap) (g : JFrame) (mk : MethodId) (a : Array Value) : hx_X D tys adK adV tF A (U.calling g mk a) (U.calling g mk a).heap := by
  obtain ⟨hK, hE, hZ, hT, hZ2, hR, hQ, hV, hN⟩ := h
  have hv : U.vm.Alike (U.calling g mk a).vm := Vm.Alike.refl U.vm
  exact ⟨va_K.moved hv hK, hx_S.moved hv hE, va_Z.moved hv hZ, va_T.moved hv hT, va_Z.moved hv hZ2, fun own k tx i hq => (hR own k tx i hq).same rfl, va_Zq.moved hv hQ, vx_Zq.moved hv hV, vx_Zq.moved hv hN⟩
def hx_Pc (D : va_G) (tys : List (ClassId × FieldType)) (adK adV : Nat → Nat) (tF : Nat) (w0 : va_W) (As : List Value) (sz : Nat) : Array Value → State → Prop := va_Pc As (fun U => U.heap.size = sz ∧ va_P D vwCl w0 U.heap ∧ hx_X D tys adK adV tF (va_A w0 sz) U U.heap ∧ va_D (fun _ => True) w0)
def hx_B {S : Type} (D : va_G) (wd : S → va_W) (A : Nat → Prop) : S → State → Prop := fun u t => va_P D vwCl (wd u) t.heap ∧ va_D A (wd u)
/-- a method that answers an int (or a boolean) and makes nothing -/
def hx_Mi {S : Type} (l : Launch) (D : va_G) (tys : List (ClassId × FieldType)) (adK adV : Nat → Nat) (tF : Nat) (wd : S → va_W) (y : MethodName) (ws : List Cond) (rm : Room) (As : List Value) (u0 : S) (v1 : Int32) (u1 : S) : Prop :=
  ∀ sz : Nat, Met l y ws rm (hx_Pc D tys adK adV tF (wd u0) As sz) (va_Qi (fun r u => r = v1 ∧ u = u1) (hx_B D wd (va_A (wd u0) sz)) (va_A (wd u0) sz)) 0 0 (va_A (wd u0) sz)
/-- .. a boolean -/
def hx_Mz {S : Type} (l : Launch) (D : va_G) (tys : List (ClassId × FieldType)) (adK adV : Nat → Nat) (tF : Nat) (wd : S → va_W) (y : MethodName) (ws : List Cond) (rm : Room) (As : List Value) (u0 : S) (b1 : Bool) (u1 : S) : Prop :=
  ∀ sz : Nat, Met l y ws rm (hx_Pc D tys adK adV tF (wd u0) As sz) (va_Qi (fun r u => r = bI b1 ∧ u = u1) (hx_B D wd (va_A (wd u0) sz)) (va_A (wd u0) sz)) 0 0 (va_A (wd u0) sz)
/-- .. that answers nothing -/
def hx_Mv {S : Type} (l : Launch) (D : va_G) (tys : List (ClassId × FieldType)) (adK adV : Nat → Nat) (tF : Nat) (wd : S → va_W) (y : MethodName) (ws : List Cond) (rm : Room) (As : List Value) (u0 : S) (u1 : S) : Prop :=
  ∀ sz : Nat, Met l y ws rm (hx_Pc D tys adK adV tF (wd u0) As sz) (va_Qv (fun u => u = u1) (hx_B D wd (va_A (wd u0) sz)) (va_A (wd u0) sz)) 0 0 (va_A (wd u0) sz)
section HXF
variable {p : Program} {l : Launch} {e : Env} {R : Room} {s : State} {m : MethodId} {args : Array Value} {below : List Frame} {meth : Method} {c : Code} {H : Heap} {locs : List Loc} {cells slots : Nat} {Q : State → Prop}
variable {D : va_G} {tys : List (ClassId × FieldType)} {adK adV : Nat → Nat} {tF : Nat} {A : Nat → Prop} {S : Type} {wd : S → va_W} {u0 : S} {y : MethodName} {ws ws' : List Cond} {rm : Room} {As : List Value} {cc : ByteArray} {maxL : Nat} {ret : Option FieldType}
/-- what stands at a method's start -/
abbrev hx_In (p : Program) (s : State) (m : MethodId) (args : Array Value) (c : Code) (cc : ByteArray) (maxL : Nat) (own : String) (ws : List Cond) : Prop := CallFix p m c cc maxL s args ws own
theorem hx_Mi.of {v1 : Int32} {u1 : S} {ty : FieldType} (hna : narrow ty (.int v1) = .int v1) (hy : plainName y.cls = true) (hw : ws = Cond.code y cc maxL (some ty) :: ws') (hml : (lg_sl As).length ≤ maxL)
    (body : ∀ (p : Program) (e : Env) (s : State) (m : MethodId) (below : List Frame) (meth : Method) (c : Code) (A : Nat → Prop) (Q : State → Prop) (ls : Array Slot), hx_In p s m As.toArray c cc maxL y.cls ws → hx_X D tys adK adV tF A s s.heap → (∀ q : Nat, s.heap.size ≤ q → A q) → va_P D vwCl (wd u0) s.heap → va_D A (wd u0) → va_S A s.heap s.heap [] → lv_has ls maxL (lv_args 0 As) →
      (∀ (H : Heap) (locs : List Loc) (u : S) (v : Int32) (pc : Nat) (ls : Array Slot), va_P D vwCl (wd u) H → va_D A (wd u) → va_S A s.heap H locs → v1 = v ∧ u1 = u → decode cc pc = .ok (.ireturn, 1) → W p l e rm s m As.toArray below meth c H locs 0 0 Q (F0 m pc ls [.int v])) →
      W p l e rm s m As.toArray below meth c s.heap [] 0 0 Q (F0 m 0 ls [])) : hx_Mi l D tys adK adV tF wd y ws rm As u0 v1 u1 := by
  intro sz
  refine Met.ofW (cc := cc) (maxL := maxL) (ret := some ty) hy hw ?_
  intro p e s m args below meth c s₁ B hm hv
  obtain ⟨rfl, hsz, hP, hX, hD0⟩ := hv
  subst hsz
  have hl := lv_entry As (n := maxL) hml
  rw [lg_entry_eq]
  refine body p e s m below meth c (va_A (wd u0) s.heap.size) _ _ ⟨B.exec, B.bytes, hm, findClass_of_methodNamed B.named, atoms_spec (ws := ws) B.pre⟩ hX (fun q h => Or.inr h) hP hD0.self va_S.rf hl ?_
  intro H locs u v pc ls hP hD hS hF hdg
  obtain ⟨rfl, rfl⟩ := hF
  exact W.zret (v := v1) B.exec B.bytes B.returns hna (fun t ht hW => ⟨⟨v1, u1, rfl, ⟨rfl, rfl⟩, by rw [ht]; exact hP, hD⟩, hS.F ht⟩) hS.2.2 hdg B.notSynchronized
theorem hx_Mz.of {b1 : Bool} {u1 : S} (hy : plainName y.cls = true) (hw : ws = Cond.code y cc maxL (some .boolean) :: ws') (hml : (lg_sl As).length ≤ maxL)
    (body : ∀ (p : Program) (e : Env) (s : State) (m : MethodId) (below : List Frame) (meth : Method) (c : Code) (A : Nat → Prop) (Q : State → Prop) (ls : Array Slot), hx_In p s m As.toArray c cc maxL y.cls ws → hx_X D tys adK adV tF A s s.heap → (∀ q : Nat, s.heap.size ≤ q → A q) → va_P D vwCl (wd u0) s.heap → va_D A (wd u0) → va_S A s.heap s.heap [] → lv_has ls maxL (lv_args 0 As) →
      (∀ (H : Heap) (locs : List Loc) (u : S) (b : Bool) (pc : Nat) (ls : Array Slot), va_P D vwCl (wd u) H → va_D A (wd u) → va_S A s.heap H locs → b1 = b ∧ u1 = u → decode cc pc = .ok (.ireturn, 1) → W p l e rm s m As.toArray below meth c H locs 0 0 Q (F0 m pc ls [.int (bI b)])) →
      W p l e rm s m As.toArray below meth c s.heap [] 0 0 Q (F0 m 0 ls [])) : hx_Mz l D tys adK adV tF wd y ws rm As u0 b1 u1 := by
  intro sz
  refine Met.ofW (cc := cc) (maxL := maxL) (ret := some .boolean) hy hw ?_
  intro p e s m args below meth c s₁ B hm hv
  obtain ⟨rfl, hsz, hP, hX, hD0⟩ := hv
  subst hsz
  have hl := lv_entry As (n := maxL) hml
  rw [lg_entry_eq]
  refine body p e s m below meth c (va_A (wd u0) s.heap.size) _ _ ⟨B.exec, B.bytes, hm, findClass_of_methodNamed B.named, atoms_spec (ws := ws) B.pre⟩ hX (fun q h => Or.inr h) hP hD0.self va_S.rf hl ?_
  intro H locs u b pc ls hP hD hS hF hdg
  obtain ⟨rfl, rfl⟩ := hF
  exact W.zret (v := bI b1) B.exec B.bytes B.returns (bI_nar b1) (fun t ht hW => ⟨⟨bI b1, u1, rfl, ⟨rfl, rfl⟩, by rw [ht]; exact hP, hD⟩, hS.F ht⟩) hS.2.2 hdg B.notSynchronized
theorem hx_Mv.of {u1 : S} (hy : plainName y.cls = true) (hw : ws = Cond.code y cc maxL none :: ws') (hml : (lg_sl As).length ≤ maxL)
    (body : ∀ (p : Program) (e : Env) (s : State) (m : MethodId) (below : List Frame) (meth : Method) (c : Code) (A : Nat → Prop) (Q : State → Prop) (ls : Array Slot), hx_In p s m As.toArray c cc maxL y.cls ws → hx_X D tys adK adV tF A s s.heap → (∀ q : Nat, s.heap.size ≤ q → A q) → va_P D vwCl (wd u0) s.heap → va_D A (wd u0) → va_S A s.heap s.heap [] → lv_has ls maxL (lv_args 0 As) →
      (∀ (H : Heap) (locs : List Loc) (u : S) (pc : Nat) (ls : Array Slot), va_P D vwCl (wd u) H → va_D A (wd u) → va_S A s.heap H locs → u1 = u → decode cc pc = .ok (.return_, 1) → W p l e rm s m As.toArray below meth c H locs 0 0 Q (F0 m pc ls [])) →
      W p l e rm s m As.toArray below meth c s.heap [] 0 0 Q (F0 m 0 ls [])) : hx_Mv l D tys adK adV tF wd y ws rm As u0 u1 := by
  intro sz
  refine Met.ofW (cc := cc) (maxL := maxL) (ret := none) hy hw ?_
  intro p e s m args below meth c s₁ B hm hv
  obtain ⟨rfl, hsz, hP, hX, hD0⟩ := hv
  subst hsz
  have hl := lv_entry As (n := maxL) hml
  rw [lg_entry_eq]
  refine body p e s m below meth c (va_A (wd u0) s.heap.size) _ _ ⟨B.exec, B.bytes, hm, findClass_of_methodNamed B.named, atoms_spec (ws := ws) B.pre⟩ hX (fun q h => Or.inr h) hP hD0.self va_S.rf hl ?_
  intro H locs u pc ls hP hD hS hF hdg
  obtain rfl := hF
  exact W.vret B.exec B.bytes B.returns (fun t ht hW => ⟨⟨u1, rfl, rfl, by rw [ht]; exact hP, hD⟩, hS.F ht⟩) hS.2.2 hdg B.notSynchronized
theorem hx_top {v w : Int32} {pc : Nat} {ls : Array Slot} {rest : List Value} (h : w = v) (k : W p l e R s m args below meth c H locs cells slots Q (F0 m pc ls (.int v :: rest))) : W p l e R s m args below meth c H locs cells slots Q (F0 m pc ls (.int w :: rest)) := h ▸ k
/-- what a call brings with it -/
theorem hx_pre {w0 wc : va_W} (hX : hx_X D tys adK adV tF A s s.heap) (hA : ∀ q : Nat, s.heap.size ≤ q → A q) (hP : va_P D vwCl w0 H) (hD : va_D A w0) (hS : va_S A s.heap H locs) (isC : List Nat) (hC : isC.map (fun i => w0[i]?) = wc.map some) (hn : va_nd isC = true) (As : List Value) :
    FrameBlind (hx_Pc D tys adK adV tF wc As H.size) ∧ ∀ U : State, U.heap = H → s.WarmedH U.vm → hx_Pc D tys adK adV tF wc As H.size As.toArray U := by
  refine ⟨fun a U g mk q => ?_, fun U hU hW => ?_⟩
  · obtain ⟨q0, q1, qP, qX, qD⟩ := q
    exact ⟨q0, q1, qP, qX.blind g mk a, qD⟩
  · refine ⟨rfl, by rw [hU], ?_, hX.call hS (va_free hD hS hA isC hC) hU hW, (hD.sub isC hn hC).weaken (fun _ _ _ _ => trivial)⟩
    rw [hU]
    exact hP.sub isC (hx_fm isC wc hC)
variable {bytes : ByteArray} {nL n index pc : Nat} {Ts : List Cond} {own C : String} {b : Addr} {rest st0 : List Value} {ls : Array Slot} {w0 wr : va_W}
/-- a call, with the callee's cells at isC, the others at isR -/
theorem hx_ci {v : Int32} {u1 : S} {a : Array Value} (hA : ∀ q : Nat, s.heap.size ≤ q → A q) (hP : va_P D vwCl w0 H) (hD : va_D A w0) (hS : va_S A s.heap H locs) (isC isR : List Nat) (hC : isC.map (fun i => w0[i]?) = (wd u0).map some) (hR : isR.map (fun i => w0[i]?) = wr.map some) (hnR : va_nd isR = true) (hdis : ∀ i ∈ isR, i ∉ isC)
    (hr : va_Run p l e R s m args below meth c H locs cells slots 0 0 (F0 m pc ls st0) rest (va_Qi (fun r u => r = v ∧ u = u1) (hx_B D wd (va_A (wd u0) H.size)) (va_A (wd u0) H.size) a) (va_A (wd u0) H.size))
    (kk : ∀ (H1 : Heap) (locs1 : List Loc), va_P D vwCl (wr ++ wd u1) H1 → va_D A (wr ++ wd u1) → va_S A s.heap H1 locs1 → W p l e R s m args below meth c H1 locs1 cells slots Q (F0 m (pc + 3) ls (.int v :: rest))) : W p l e R s m args below meth c H locs cells slots Q (F0 m pc ls st0) := by
  have hFc := va_free hD hS hA isC hC
  refine va_calli hr hS (fun q _ h => hFc q h) hFc (fun r u t H1 locs1 ht hvm hw hB hz1 hk1 hS1 => ?_)
  obtain ⟨rfl, rfl⟩ := hw
  obtain ⟨hP1, hD1⟩ := hB
  rw [ht] at hP1
  obtain ⟨hP2, hD2⟩ := va_join hP hD isC isR hC hR hnR hdis hk1 hFc hP1 hD1
  exact kk H1 locs1 hP2 hD2 hS1
theorem hx_cv {u1 : S} {a : Array Value} (hA : ∀ q : Nat, s.heap.size ≤ q → A q) (hP : va_P D vwCl w0 H) (hD : va_D A w0) (hS : va_S A s.heap H locs) (isC isR : List Nat) (hC : isC.map (fun i => w0[i]?) = (wd u0).map some) (hR : isR.map (fun i => w0[i]?) = wr.map some) (hnR : va_nd isR = true) (hdis : ∀ i ∈ isR, i ∉ isC)
    (hr : va_Run p l e R s m args below meth c H locs cells slots 0 0 (F0 m pc ls st0) rest (va_Qv (fun u => u = u1) (hx_B D wd (va_A (wd u0) H.size)) (va_A (wd u0) H.size) a) (va_A (wd u0) H.size))
    (kk : ∀ (H1 : Heap) (locs1 : List Loc), va_P D vwCl (wr ++ wd u1) H1 → va_D A (wr ++ wd u1) → va_S A s.heap H1 locs1 → W p l e R s m args below meth c H1 locs1 cells slots Q (F0 m (pc + 3) ls rest)) : W p l e R s m args below meth c H locs cells slots Q (F0 m pc ls st0) := by
  have hFc := va_free hD hS hA isC hC
  refine va_callv hr hS (fun q _ h => hFc q h) hFc (fun u t H1 locs1 ht hvm hw hB hz1 hk1 hS1 => ?_)
  obtain rfl := hw
  obtain ⟨hP1, hD1⟩ := hB
  rw [ht] at hP1
  obtain ⟨hP2, hD2⟩ := va_join hP hD isC isR hC hR hnR hdis hk1 hFc hP1 hD1
  exact kk H1 locs1 hP2 hD2 hS1
theorem hx_Vi {v1 : Int32} {u1 : S} (hI : hx_In p s m args c cc nL own Ts) (hM : hx_Mi l D tys adK adV tF wd y ws rm (.ref b :: As) u0 v1 u1) (cw : CallW R s args own C index y bytes maxL ret ws rm 0 0 n) (hX : hx_X D tys adK adV tF A s s.heap) (hA : ∀ q : Nat, s.heap.size ≤ q → A q) (hP : va_P D vwCl w0 H) (hD : va_D A w0) (hS : va_S A s.heap H locs) (isC isR : List Nat) (hC : isC.map (fun i => w0[i]?) = (wd u0).map some) (hR : isR.map (fun i => w0[i]?) = wr.map some) (hnC : va_nd isC = true) (hnR : va_nd isR = true) (hdis : ∀ i ∈ isR, i ∉ isC)
    (hrc : ∃ cellB : Cell, H[b]? = some cellB ∧ cellB.vm.isStatics = false ∧ s.vm.findClass C = some cellB.cls) (hn : As.length = n) (hsz : ls.size = nL) (hst : st0 = As.reverse ++ .ref b :: rest) (hW : (rest.map fun v => v.category).sum ≤ 8) (hdg : decode cc pc = .ok (.invokevirtual index, 3)) (hf : cells ≤ R.cells ∧ slots ≤ R.slots)
    (kk : ∀ (H1 : Heap) (locs1 : List Loc), va_P D vwCl (wr ++ wd u1) H1 → va_D A (wr ++ wd u1) → va_S A s.heap H1 locs1 → W p l e R s m args below meth c H1 locs1 cells slots Q (F0 m (pc + 3) ls (.int v1 :: rest))) : W p l e R s m args below meth c H locs cells slots Q (F0 m pc ls st0) :=
  hx_ci hA hP hD hS isC isR hC hR hnR hdis (va_runV hI (hM H.size) cw ⟨(hx_pre hX hA hP hD hS isC hC hnC (.ref b :: As)).1, hrc, (hx_pre hX hA hP hD hS isC hC hnC (.ref b :: As)).2⟩ rfl hn hsz hst (lv_room hW) hdg hf) kk
theorem hx_Vz {b1 : Bool} {u1 : S} (hI : hx_In p s m args c cc nL own Ts) (hM : hx_Mz l D tys adK adV tF wd y ws rm (.ref b :: As) u0 b1 u1) (cw : CallW R s args own C index y bytes maxL ret ws rm 0 0 n) (hX : hx_X D tys adK adV tF A s s.heap) (hA : ∀ q : Nat, s.heap.size ≤ q → A q) (hP : va_P D vwCl w0 H) (hD : va_D A w0) (hS : va_S A s.heap H locs) (isC isR : List Nat) (hC : isC.map (fun i => w0[i]?) = (wd u0).map some) (hR : isR.map (fun i => w0[i]?) = wr.map some) (hnC : va_nd isC = true) (hnR : va_nd isR = true) (hdis : ∀ i ∈ isR, i ∉ isC)
    (hrc : ∃ cellB : Cell, H[b]? = some cellB ∧ cellB.vm.isStatics = false ∧ s.vm.findClass C = some cellB.cls) (hn : As.length = n) (hsz : ls.size = nL) (hst : st0 = As.reverse ++ .ref b :: rest) (hW : (rest.map fun v => v.category).sum ≤ 8) (hdg : decode cc pc = .ok (.invokevirtual index, 3)) (hf : cells ≤ R.cells ∧ slots ≤ R.slots)
    (kk : ∀ (H1 : Heap) (locs1 : List Loc), va_P D vwCl (wr ++ wd u1) H1 → va_D A (wr ++ wd u1) → va_S A s.heap H1 locs1 → W p l e R s m args below meth c H1 locs1 cells slots Q (F0 m (pc + 3) ls (.int (bI b1) :: rest))) : W p l e R s m args below meth c H locs cells slots Q (F0 m pc ls st0) :=
  hx_ci hA hP hD hS isC isR hC hR hnR hdis (va_runV hI (hM H.size) cw ⟨(hx_pre hX hA hP hD hS isC hC hnC (.ref b :: As)).1, hrc, (hx_pre hX hA hP hD hS isC hC hnC (.ref b :: As)).2⟩ rfl hn hsz hst (lv_room hW) hdg hf) kk
theorem hx_Vv {u1 : S} (hI : hx_In p s m args c cc nL own Ts) (hM : hx_Mv l D tys adK adV tF wd y ws rm (.ref b :: As) u0 u1) (cw : CallW R s args own C index y bytes maxL ret ws rm 0 0 n) (hX : hx_X D tys adK adV tF A s s.heap) (hA : ∀ q : Nat, s.heap.size ≤ q → A q) (hP : va_P D vwCl w0 H) (hD : va_D A w0) (hS : va_S A s.heap H locs) (isC isR : List Nat) (hC : isC.map (fun i => w0[i]?) = (wd u0).map some) (hR : isR.map (fun i => w0[i]?) = wr.map some) (hnC : va_nd isC = true) (hnR : va_nd isR = true) (hdis : ∀ i ∈ isR, i ∉ isC)
    (hrc : ∃ cellB : Cell, H[b]? = some cellB ∧ cellB.vm.isStatics = false ∧ s.vm.findClass C = some cellB.cls) (hn : As.length = n) (hsz : ls.size = nL) (hst : st0 = As.reverse ++ .ref b :: rest) (hW : (rest.map fun v => v.category).sum ≤ 8) (hdg : decode cc pc = .ok (.invokevirtual index, 3)) (hf : cells ≤ R.cells ∧ slots ≤ R.slots)
    (kk : ∀ (H1 : Heap) (locs1 : List Loc), va_P D vwCl (wr ++ wd u1) H1 → va_D A (wr ++ wd u1) → va_S A s.heap H1 locs1 → W p l e R s m args below meth c H1 locs1 cells slots Q (F0 m (pc + 3) ls (rest))) : W p l e R s m args below meth c H locs cells slots Q (F0 m pc ls st0) :=
  hx_cv hA hP hD hS isC isR hC hR hnR hdis (va_runV hI (hM H.size) cw ⟨(hx_pre hX hA hP hD hS isC hC hnC (.ref b :: As)).1, hrc, (hx_pre hX hA hP hD hS isC hC hnC (.ref b :: As)).2⟩ rfl hn hsz hst (lv_room hW) hdg hf) kk
theorem hx_Si {v1 : Int32} {u1 : S} (hI : hx_In p s m args c cc nL own Ts) (hM : hx_Mi l D tys adK adV tF wd y ws rm As u0 v1 u1) (cw : CallB R s args own index y bytes maxL ret ws rm 0 0 n ∧ (Cond.static y).before args s = true) (hX : hx_X D tys adK adV tF A s s.heap) (hA : ∀ q : Nat, s.heap.size ≤ q → A q) (hP : va_P D vwCl w0 H) (hD : va_D A w0) (hS : va_S A s.heap H locs) (isC isR : List Nat) (hC : isC.map (fun i => w0[i]?) = (wd u0).map some) (hR : isR.map (fun i => w0[i]?) = wr.map some) (hnC : va_nd isC = true) (hnR : va_nd isR = true) (hdis : ∀ i ∈ isR, i ∉ isC)
    (hn : As.length = n) (hsz : ls.size = nL) (hst : st0 = As.reverse ++ rest) (hW : (rest.map fun v => v.category).sum ≤ 8) (hdg : decode cc pc = .ok (.invokestatic index, 3)) (hf : cells ≤ R.cells ∧ slots ≤ R.slots)
    (kk : ∀ (H1 : Heap) (locs1 : List Loc), va_P D vwCl (wr ++ wd u1) H1 → va_D A (wr ++ wd u1) → va_S A s.heap H1 locs1 → W p l e R s m args below meth c H1 locs1 cells slots Q (F0 m (pc + 3) ls (.int v1 :: rest))) : W p l e R s m args below meth c H locs cells slots Q (F0 m pc ls st0) :=
  hx_ci hA hP hD hS isC isR hC hR hnR hdis (va_runS hI (hM H.size) cw ⟨(hx_pre hX hA hP hD hS isC hC hnC As).1, (hx_pre hX hA hP hD hS isC hC hnC As).2⟩ rfl hn hsz hst (lv_room hW) hdg hf) kk
theorem hx_Sz {b1 : Bool} {u1 : S} (hI : hx_In p s m args c cc nL own Ts) (hM : hx_Mz l D tys adK adV tF wd y ws rm As u0 b1 u1) (cw : CallB R s args own index y bytes maxL ret ws rm 0 0 n ∧ (Cond.static y).before args s = true) (hX : hx_X D tys adK adV tF A s s.heap) (hA : ∀ q : Nat, s.heap.size ≤ q → A q) (hP : va_P D vwCl w0 H) (hD : va_D A w0) (hS : va_S A s.heap H locs) (isC isR : List Nat) (hC : isC.map (fun i => w0[i]?) = (wd u0).map some) (hR : isR.map (fun i => w0[i]?) = wr.map some) (hnC : va_nd isC = true) (hnR : va_nd isR = true) (hdis : ∀ i ∈ isR, i ∉ isC)
    (hn : As.length = n) (hsz : ls.size = nL) (hst : st0 = As.reverse ++ rest) (hW : (rest.map fun v => v.category).sum ≤ 8) (hdg : decode cc pc = .ok (.invokestatic index, 3)) (hf : cells ≤ R.cells ∧ slots ≤ R.slots)
    (kk : ∀ (H1 : Heap) (locs1 : List Loc), va_P D vwCl (wr ++ wd u1) H1 → va_D A (wr ++ wd u1) → va_S A s.heap H1 locs1 → W p l e R s m args below meth c H1 locs1 cells slots Q (F0 m (pc + 3) ls (.int (bI b1) :: rest))) : W p l e R s m args below meth c H locs cells slots Q (F0 m pc ls st0) :=
  hx_ci hA hP hD hS isC isR hC hR hnR hdis (va_runS hI (hM H.size) cw ⟨(hx_pre hX hA hP hD hS isC hC hnC As).1, (hx_pre hX hA hP hD hS isC hC hnC As).2⟩ rfl hn hsz hst (lv_room hW) hdg hf) kk
theorem hx_Sv {u1 : S} (hI : hx_In p s m args c cc nL own Ts) (hM : hx_Mv l D tys adK adV tF wd y ws rm As u0 u1) (cw : CallB R s args own index y bytes maxL ret ws rm 0 0 n ∧ (Cond.static y).before args s = true) (hX : hx_X D tys adK adV tF A s s.heap) (hA : ∀ q : Nat, s.heap.size ≤ q → A q) (hP : va_P D vwCl w0 H) (hD : va_D A w0) (hS : va_S A s.heap H locs) (isC isR : List Nat) (hC : isC.map (fun i => w0[i]?) = (wd u0).map some) (hR : isR.map (fun i => w0[i]?) = wr.map some) (hnC : va_nd isC = true) (hnR : va_nd isR = true) (hdis : ∀ i ∈ isR, i ∉ isC)
    (hn : As.length = n) (hsz : ls.size = nL) (hst : st0 = As.reverse ++ rest) (hW : (rest.map fun v => v.category).sum ≤ 8) (hdg : decode cc pc = .ok (.invokestatic index, 3)) (hf : cells ≤ R.cells ∧ slots ≤ R.slots)
    (kk : ∀ (H1 : Heap) (locs1 : List Loc), va_P D vwCl (wr ++ wd u1) H1 → va_D A (wr ++ wd u1) → va_S A s.heap H1 locs1 → W p l e R s m args below meth c H1 locs1 cells slots Q (F0 m (pc + 3) ls (rest))) : W p l e R s m args below meth c H locs cells slots Q (F0 m pc ls st0) :=
  hx_cv hA hP hD hS isC isR hC hR hnR hdis (va_runS hI (hM H.size) cw ⟨(hx_pre hX hA hP hD hS isC hC hnC As).1, (hx_pre hX hA hP hD hS isC hC hnC As).2⟩ rfl hn hsz hst (lv_room hW) hdg hf) kk
theorem pr2 {α β : Type} {F : α × β} {a : α} {b : β} (h : F = (a, b)) : F.1 = a ∧ F.2 = b := by subst h; exact ⟨rfl, rfl⟩
end HXF
/-! the worlds -/
def rdW (ad : Nat → Nat) (cd : Nat → ClassId) (T : TX) (s : RS) : va_W := [(ad 0, .inr (1, [.ref (ad 1), .ref (ad 3), .ref (ad 4), .ref (ad 5), .int (rNm s), .int (rKd s), .int (rPl s), .int (rSk s), .int (rNb s), .int (rWs s), .int (rWe s)])), (ad 1, .inr (2, [.ref (ad 2), .int (T.2)])), (ad 2, .inl (cd 0, 300, .inl T.1)), (ad 3, .inl (cd 1, 100, .inl (rNs s))), (ad 4, .inl (cd 2, 100, .inl (rNe s))), (ad 5, .inr (0, [.ref (ad 6), .ref (ad 7)])), (ad 6, .inl (cd 3, 18, .inl (rVs s))), (ad 7, .inl (cd 4, 8, .inl (rVr s)))]
def tpW (ad : Nat → Nat) (cd : Nat → ClassId) (T : TX) : va_W := [(ad 1, .inr (2, [.ref (ad 2), .int (T.2)])), (ad 2, .inl (cd 0, 300, .inl T.1))]
def hdW (ah av ar : Nat) (cv cr : ClassId) (q : (Nat → Int32) × (Nat → Int32)) : va_W := [(ah, .inr (0, [.ref (av), .ref (ar)])), (av, .inl (cv, 18, .inl q.1)), (ar, .inl (cr, 8, .inl q.2))]
abbrev tyH (cd : Nat → ClassId) : List (ClassId × FieldType) := [(cd 0, .char), (cd 1, .int), (cd 2, .int), (cd 3, .int), (cd 4, .int), (cd 5, .int), (cd 6, .int)]
end
section
/-- System.arraycopy of the whole given table of 18 ints over an array of 18 ints of the world (my own row, over the library's law of arraycopy) -/
theorem hx_copy18 {p : Program} {l : Launch} {e : Env} {R : Room} {s : State} {m : MethodId} {args : Array Value} {below : List Frame} {meth : Method} {c : Code} {H : Heap} {locs : List Loc} {cells slots : Nat} {Q : State → Prop} {cc : ByteArray} {pc : Nat} {ls : Array Slot} {rest : List Value} {D : va_G} {A : Nat → Prop} {a : Nat} {tys : List (ClassId × FieldType)} {w0 : va_W} {own : String} {index b0 : Nat} {f g : Nat → Int32} {c1 : ClassId}
    (hx : p.tables.exec = Jvm.exec) (hb : c.code = cc) (hml : c.maxLocals = ls.size) (hown : s.vm.findClass own = some m.cls) (hlink : (Cond.methodLink own index arraycopyName).before args s = true) (hnat : (Cond.native arraycopyName).before args s = true) (hstat : (Cond.static arraycopyName).before args s = true) (hini : (Cond.initialized "java/lang/System").before args s = true)
    (hK : va_K D vwCl tys s) (hP : va_P D vwCl w0 H) (hD : va_D A w0) (hS : va_S A s.heap H locs) (hT0 : va_T .int b0 18 (fun j => .int (f j)) A s s.heap) (q1 t1 : Nat) (ha1 : w0[q1]? = some (a, .inl (c1, 18, .inl g))) (ht1 : tys[t1]? = some (c1, .int))
    (hframes : 1 ≤ R.frames) (hlocals : (rest.map fun v => v.category).sum + (nativeFrameWords "java/lang/System" "arraycopy" 5 + 11) ≤ R.locals) (hdg : decode cc pc = .ok (.invokestatic index, 3))
    (kk : ∀ (H1 : Heap) (locs1 : List Loc), va_P D vwCl (w0.set q1 (a, .inl (c1, 18, .inl (va_cpy f g 0 0 18)))) H1 → va_D A (w0.set q1 (a, .inl (c1, 18, .inl (va_cpy f g 0 0 18)))) → va_S A s.heap H1 locs1 → W p l e R s m args below meth c H1 locs1 cells slots Q (F0 m (pc + 3) ls rest)) :
    W p l e R s m args below meth c H locs cells slots Q (F0 m pc ls (.int 18 :: .int 0 :: .ref a :: .int 0 :: .ref b0 :: rest)) := by
  intro T hT X
  obtain ⟨src, g1, g2, g3, g4, -, g5, g6⟩ := hT0
  have hsrc : H[b0]? = some src := (hS.2.1 b0 (Array.getElem?_eq_some_iff.mp g1).1 g6).trans g1
  have hdst : H[a]? = some (vp_cell c1 (18, .inl g)) := hP q1 _ ha1
  obtain ⟨u1, k0, u2, m0, u3⟩ := g2
  obtain ⟨-, k1, v2, m1, v3⟩ := (hK.2 t1 _ ht1).1 18 (fun j => .int (g j))
  obtain ⟨vm', X', step⟩ := X.arraycopy hx hown hlink hnat hstat hini (src := b0) (dst := a) (cs := src) (cd := vp_cell c1 (18, .inl g)) (srcPos := 0) (destPos := 0) (n := 18) (by rw [hT]; exact hsrc) (by rw [hT]; exact hdst)
    u1 (fun _ h => by cases h) g3 (fun h => by cases h) u2 v2 u3 v3 (by simp [refKind]) (by decide) (by decide) (by decide)
    (by show ¬ (18 : Int) > (src.slots.size : Int); omega)
    (by show ¬ (18 : Int) > ((arrV c1 18 (fun j => .int (g j))).slots.size : Int); rw [arrV_size]; omega)
    (fun _ _ i hi => by
      have hi' : i < 18 := hi
      have e0 : src.slots.getD ((0 : Int32).toNatClampNeg + i) .null = .int (f i) := by
        rw [show (0 : Int32).toNatClampNeg + i = i from Nat.zero_add i, Array.getD_eq_getD_getElem?, g5 i hi']
        rfl
      rw [e0]
      exact ⟨rfl, trivial⟩)
    (g := F0 m pc ls (.int 18 :: .int 0 :: .ref a :: .int 0 :: .ref b0 :: rest)) rfl (by rw [hml]) (rest := rest) rfl (by rw [hb]; exact hdg) hframes (by show 2 * 0 + _ + _ ≤ _; omega)
  have ec : copied src (vp_cell c1 (18, .inl g)) 0 0 18 = vp_cell c1 (18, .inl (va_cpy f g 0 0 18)) := va_copiedX (fun z => .int z) src c1 f g g5 (sp := 0) (dp := 0) (n := 18) (by decide)
  rw [ec] at X' step
  generalize hce : vp_cell c1 (18, .inl (va_cpy f g 0 0 18)) = ce at X' step
  have hlt : a < H.size := (Array.getElem?_eq_some_iff.mp hdst).1
  have hheap : ((T.setVm vm').setCell a ce).heap = H.setIfInBounds a ce := by rw [← hT]; rfl
  have other : ∀ q : Nat, q ≠ a → (H.setIfInBounds a ce)[q]? = H[q]? := fun q hq => by simp [Array.getElem?_setIfInBounds, Ne.symm hq]
  have hAa : A a := hD.2 q1 _ ha1
  have hself : (H.setIfInBounds a ce)[a]? = some (vp_cell c1 (18, .inl (va_cpy f g 0 0 18))) := by rw [hce]; simp [Array.getElem?_setIfInBounds, hlt]
  obtain ⟨t, a1, b1⟩ := kk _ _ (hP.set hD ha1 hself other) (hD.set ha1) ⟨by simp; exact hS.1, fun q z1 z2 => by
      rw [other q (fun h => z2 (h ▸ hAa))]
      exact hS.2.1 q z1 z2, fun q hq => by
      rcases List.mem_append.mp hq with h | h
      · exact hS.2.2 q h
      · obtain ⟨z, -, hz⟩ := List.mem_map.mp h
        rw [← hz]
        exact hAa⟩ _ hheap X'
  exact ⟨t, step t a1, b1⟩
end
section
theorem sw_1 : sw 1 = t_PUT := by decide +kernel
theorem sw_2 : sw 2 = t_HEAD := by decide +kernel
theorem sw_3 : sw 3 = t_GET := by decide +kernel
theorem sw_4 : sw 4 = t_cache_control := by decide +kernel
theorem sw_5 : sw 5 = t_no_cache := by decide +kernel
theorem sw_6 : sw 6 = t_no_store := by decide +kernel
theorem sw_7 : sw 7 = t_only_if_cached := by decide +kernel
theorem sw_8 : sw 8 = t_max_stale := by decide +kernel
theorem sw_9 : sw 9 = t_max_age := by decide +kernel
theorem sw_10 : sw 10 = t_stale_if_error := by decide +kernel
theorem sw_11 : sw 11 = t_stale_while_revalidate := by decide +kernel
theorem sw_12 : sw 12 = t_min_fresh := by decide +kernel
theorem sw_13 : sw 13 = t_range := by decide +kernel
theorem sw_14 : sw 14 = t_bytes := by decide +kernel
theorem sw_15 : sw 15 = t_if_none_match := by decide +kernel
theorem sw_16 : sw 16 = t_length := by decide +kernel
theorem sw_17 : sw 17 = t_keys := by decide +kernel
end
section
variable {l : Launch} {D : va_G} {ad : Nat → Nat} {cd : Nat → ClassId} {adK adV : Nat → Nat} {tF : Nat} {T : TX} {tys : List (ClassId × FieldType)}

set_option maxHeartbeats 4000000 in
set_option maxRecDepth 100000 in
theorem c_Prec_checkIndexN {j n : Nat} (hj : j < n) (hn : n < 2 ^ 31) : hx_Mi l D tys adK adV tF (fun _ : Unit => []) y_Prec_checkIndex w_Prec_checkIndex (rmD 1) [.int (nI j), .int (nI n), .null] () (nI j) () := by
  refine hx_Mi.of (cc := b_Prec_checkIndex) (maxL := 3) rfl (by decide) rfl (Nat.le_of_ble_eq_true rfl) ?_
  intro p e s m below meth c A Q ls hI hX hA hP hD hS hl hret
  obtain ⟨hx, hb, hml, hown, hts⟩ := id hI
  have hts : ∀ w ∈ aw, w.before ([.int (nI j), .int (nI n), .null] : List Value).toArray s = true := fun w h => hts w (List.mem_cons_of_mem _ h)
  have hown : s.vm.findClass "jdk/internal/util/Preconditions" = some m.cls := hown
  have hI : hx_In p s m ([.int (nI j), .int (nI n), .null] : List Value).toArray c b_Prec_checkIndex 3 "jdk/internal/util/Preconditions" aw := ⟨hx, hb, hml, hown, hts⟩
  have hP : va_P D vwCl ([]) s.heap := hP
  obtain ⟨H, hH⟩ : ∃ H, H = s.heap := ⟨_, rfl⟩
  obtain ⟨locs, hlo⟩ : ∃ locs : List Loc, locs = [] := ⟨_, rfl⟩
  have hS : va_S A s.heap H locs := by rw [hH, hlo]; exact hS
  have hP : va_P D vwCl ([]) H := by rw [hH]; exact hP
  have hl : lv_has ls 3 [(0, .int (nI j)), (1, .int (nI n)), (2, .null)] := hl
  have goal : W p l e (rmD 1) s m ([.int (nI j), .int (nI n), .null] : List Value).toArray below meth c H locs 0 0 Q (F0 m 0 ls []) := by
    refine lv_iload_n hx hb d_Prec_checkIndex_0 rfl (lv_at hl 0 rfl) ?_
    refine lv_if_lt (tgt := 9) hx hb d_Prec_checkIndex_1 (by decide) (fun c_1 => ?_) (fun c_1 => ?_)
    · skip
      exact absurd c_1 (nI_pos (by omega))
    · skip
      have c_1 : ¬ (nI j < 0) := c_1
      refine lv_iload_n hx hb d_Prec_checkIndex_4 rfl (lv_at hl 0 rfl) ?_
      refine lv_iload_n hx hb d_Prec_checkIndex_5 rfl (lv_at hl 1 rfl) ?_
      refine lv_icmp_lt (tgt := 16) hx hb d_Prec_checkIndex_6 (by decide) (fun c_6 => ?_) (fun c_6 => ?_)
      · skip
        have c_6 : (nI j < nI n) := c_6
        refine lv_iload_n hx hb d_Prec_checkIndex_16 rfl (lv_at hl 0 rfl) ?_
        exact hret H locs () (nI j) _ _ hP hD hS ⟨rfl, rfl⟩ d_Prec_checkIndex_17
      · skip
        exact absurd (nI_lt hj hn) c_6
  rw [hH, hlo] at goal
  exact goal
set_option maxHeartbeats 4000000 in
set_option maxRecDepth 100000 in
theorem c_Prec_checkIndexR {j n : Nat} (hj : j < n) (hn : n < 2 ^ 31) (tz : Nat) : hx_Mi l D tys adK adV tF (fun _ : Unit => []) y_Prec_checkIndex w_Prec_checkIndex (rmD 1) [.int (nI j), .int (nI n), .ref tz] () (nI j) () := by
  refine hx_Mi.of (cc := b_Prec_checkIndex) (maxL := 3) rfl (by decide) rfl (Nat.le_of_ble_eq_true rfl) ?_
  intro p e s m below meth c A Q ls hI hX hA hP hD hS hl hret
  obtain ⟨hx, hb, hml, hown, hts⟩ := id hI
  have hts : ∀ w ∈ aw, w.before ([.int (nI j), .int (nI n), .ref tz] : List Value).toArray s = true := fun w h => hts w (List.mem_cons_of_mem _ h)
  have hown : s.vm.findClass "jdk/internal/util/Preconditions" = some m.cls := hown
  have hI : hx_In p s m ([.int (nI j), .int (nI n), .ref tz] : List Value).toArray c b_Prec_checkIndex 3 "jdk/internal/util/Preconditions" aw := ⟨hx, hb, hml, hown, hts⟩
  have hP : va_P D vwCl ([]) s.heap := hP
  obtain ⟨H, hH⟩ : ∃ H, H = s.heap := ⟨_, rfl⟩
  obtain ⟨locs, hlo⟩ : ∃ locs : List Loc, locs = [] := ⟨_, rfl⟩
  have hS : va_S A s.heap H locs := by rw [hH, hlo]; exact hS
  have hP : va_P D vwCl ([]) H := by rw [hH]; exact hP
  have hl : lv_has ls 3 [(0, .int (nI j)), (1, .int (nI n)), (2, .ref tz)] := hl
  have goal : W p l e (rmD 1) s m ([.int (nI j), .int (nI n), .ref tz] : List Value).toArray below meth c H locs 0 0 Q (F0 m 0 ls []) := by
    refine lv_iload_n hx hb d_Prec_checkIndex_0 rfl (lv_at hl 0 rfl) ?_
    refine lv_if_lt (tgt := 9) hx hb d_Prec_checkIndex_1 (by decide) (fun c_1 => ?_) (fun c_1 => ?_)
    · skip
      exact absurd c_1 (nI_pos (by omega))
    · skip
      have c_1 : ¬ (nI j < 0) := c_1
      refine lv_iload_n hx hb d_Prec_checkIndex_4 rfl (lv_at hl 0 rfl) ?_
      refine lv_iload_n hx hb d_Prec_checkIndex_5 rfl (lv_at hl 1 rfl) ?_
      refine lv_icmp_lt (tgt := 16) hx hb d_Prec_checkIndex_6 (by decide) (fun c_6 => ?_) (fun c_6 => ?_)
      · skip
        have c_6 : (nI j < nI n) := c_6
        refine lv_iload_n hx hb d_Prec_checkIndex_16 rfl (lv_at hl 0 rfl) ?_
        exact hret H locs () (nI j) _ _ hP hD hS ⟨rfl, rfl⟩ d_Prec_checkIndex_17
      · skip
        exact absurd (nI_lt hj hn) c_6
  rw [hH, hlo] at goal
  exact goal
set_option maxHeartbeats 4000000 in
set_option maxRecDepth 100000 in
theorem c_String_checkIndex {j n : Nat} (hj : j < n) (hn : n < 2 ^ 31) : hx_Mv l D tys adK adV tF (fun _ : Unit => []) y_String_checkIndex w_String_checkIndex (rmD 2) [.int (nI j), .int (nI n)] () () := by
  refine hx_Mv.of (cc := b_String_checkIndex) (maxL := 2) (by decide) rfl (Nat.le_of_ble_eq_true rfl) ?_
  intro p e s m below meth c A Q ls hI hX hA hP hD hS hl hret
  obtain ⟨hx, hb, hml, hown, hts⟩ := id hI
  have hts : ∀ w ∈ aw, w.before ([.int (nI j), .int (nI n)] : List Value).toArray s = true := fun w h => hts w (List.mem_cons_of_mem _ h)
  have hown : s.vm.findClass "java/lang/String" = some m.cls := hown
  have hI : hx_In p s m ([.int (nI j), .int (nI n)] : List Value).toArray c b_String_checkIndex 2 "java/lang/String" aw := ⟨hx, hb, hml, hown, hts⟩
  have hP : va_P D vwCl ([]) s.heap := hP
  obtain ⟨H, hH⟩ : ∃ H, H = s.heap := ⟨_, rfl⟩
  obtain ⟨locs, hlo⟩ : ∃ locs : List Loc, locs = [] := ⟨_, rfl⟩
  have hS : va_S A s.heap H locs := by rw [hH, hlo]; exact hS
  have hP : va_P D vwCl ([]) H := by rw [hH]; exact hP
  have hl : lv_has ls 2 [(0, .int (nI j)), (1, .int (nI n))] := hl
  have goal : W p l e (rmD 2) s m ([.int (nI j), .int (nI n)] : List Value).toArray below meth c H locs 0 0 Q (F0 m 0 ls []) := by
    refine lv_iload_n hx hb d_String_checkIndex_0 rfl (lv_at hl 0 rfl) ?_
    refine lv_iload_n hx hb d_String_checkIndex_1 rfl (lv_at hl 1 rfl) ?_
    rcases hX.2.2.2.2.2.2.1 with hZ | ⟨tz, hZ⟩
    · refine va_gets hx hb hZ hS hown (hts _ m_1) (fun _ h9 => h9) d_String_checkIndex_2 ?_
      refine hx_Si (wr := []) (As := [.int (nI j), .int (nI n), .null]) (rest := []) hI (c_Prec_checkIndexN hj hn) (cw_S 3 hts m_2 m_4 m_5 m_3 (by decide +kernel) ⟨by decide, by decide⟩) hX hA hP hD hS [] [] rfl rfl (by decide) (by decide) (by decide) rfl hl.1 rfl (Nat.le_of_ble_eq_true rfl) d_String_checkIndex_5 ⟨Nat.zero_le _, Nat.zero_le _⟩ (fun H locs hP hD hS => ?_)
      have hP : va_P D vwCl ([]) H := hP
      have hD : va_D A ([]) := hD
      refine lv_pop hx hb d_String_checkIndex_8 rfl ?_
      exact hret H locs () _ _ hP hD hS rfl d_String_checkIndex_9
    · refine va_gets hx hb hZ hS hown (hts _ m_1) (fun _ h9 => h9) d_String_checkIndex_2 ?_
      refine hx_Si (wr := []) (As := [.int (nI j), .int (nI n), .ref tz]) (rest := []) hI (c_Prec_checkIndexR hj hn tz) (cw_S 3 hts m_2 m_4 m_5 m_3 (by decide +kernel) ⟨by decide, by decide⟩) hX hA hP hD hS [] [] rfl rfl (by decide) (by decide) (by decide) rfl hl.1 rfl (Nat.le_of_ble_eq_true rfl) d_String_checkIndex_5 ⟨Nat.zero_le _, Nat.zero_le _⟩ (fun H locs hP hD hS => ?_)
      have hP : va_P D vwCl ([]) H := hP
      have hD : va_D A ([]) := hD
      refine lv_pop hx hb d_String_checkIndex_8 rfl ?_
      exact hret H locs () _ _ hP hD hS rfl d_String_checkIndex_9
  rw [hH, hlo] at goal
  exact goal
set_option maxHeartbeats 4000000 in
set_option maxRecDepth 100000 in
theorem c_Latin_charAt {i : Nat} (hi : i < nJS) {j : Nat} (hj : j < (sw i).length) : hx_Mi l D tys adK adV tF (fun _ : Unit => []) y_Latin_charAt w_Latin_charAt (rmD 3) [.ref (adV i), .int (nI j)] () ((sw i).getD j 0) () := by
  refine hx_Mi.of (cc := b_Latin_charAt) (maxL := 2) (sw_nar hi hj) (by decide) rfl (Nat.le_of_ble_eq_true rfl) ?_
  intro p e s m below meth c A Q ls hI hX hA hP hD hS hl hret
  obtain ⟨hx, hb, hml, hown, hts⟩ := id hI
  have hts : ∀ w ∈ aw, w.before ([.ref (adV i), .int (nI j)] : List Value).toArray s = true := fun w h => hts w (List.mem_cons_of_mem _ h)
  have hown : s.vm.findClass "java/lang/StringLatin1" = some m.cls := hown
  have hI : hx_In p s m ([.ref (adV i), .int (nI j)] : List Value).toArray c b_Latin_charAt 2 "java/lang/StringLatin1" aw := ⟨hx, hb, hml, hown, hts⟩
  have hP : va_P D vwCl ([]) s.heap := hP
  obtain ⟨H, hH⟩ : ∃ H, H = s.heap := ⟨_, rfl⟩
  obtain ⟨locs, hlo⟩ : ∃ locs : List Loc, locs = [] := ⟨_, rfl⟩
  have hS : va_S A s.heap H locs := by rw [hH, hlo]; exact hS
  have hP : va_P D vwCl ([]) H := by rw [hH]; exact hP
  have hl : lv_has ls 2 [(0, .ref (adV i)), (1, .int (nI j))] := hl
  have goal : W p l e (rmD 3) s m ([.ref (adV i), .int (nI j)] : List Value).toArray below meth c H locs 0 0 Q (F0 m 0 ls []) := by
    refine lv_iload_n hx hb d_Latin_charAt_0 rfl (lv_at hl 1 rfl) ?_
    refine lv_aload_n hx hb d_Latin_charAt_1 rfl (lv_at hl 0 rfl) ?_
    refine va_tlen (v := nI (sw i).length) hx hb (hX.2.1 i hi).2.2.2 hS (by rw [(sw_all i hi).2.1]; rfl) d_Latin_charAt_2 ?_
    refine hx_Sv (wr := []) (As := [.int (nI j), .int (nI (sw i).length)]) (rest := []) hI (c_String_checkIndex (n := (sw i).length) hj (by have := sw_len hi; omega)) (cw_S 2 hts m_6 m_8 m_9 m_7 (by decide +kernel) ⟨by decide, by decide⟩) hX hA hP hD hS [] [] rfl rfl (by decide) (by decide) (by decide) rfl hl.1 rfl (Nat.le_of_ble_eq_true rfl) d_Latin_charAt_3 ⟨Nat.zero_le _, Nat.zero_le _⟩ (fun H locs hP hD hS => ?_)
    have hP : va_P D vwCl ([]) H := hP
    have hD : va_D A ([]) := hD
    refine lv_aload_n hx hb d_Latin_charAt_6 rfl (lv_at hl 0 rfl) ?_
    refine lv_iload_n hx hb d_Latin_charAt_7 rfl (lv_at hl 1 rfl) ?_
    refine va_tb (v := .int ((sw i).getD j 0)) hx hb (hX.2.1 i hi).2.2.2 hS (by rw [(sw_all i hi).2.1]; exact vp_in_nI hj (by have := sw_len hi; omega)) (by show Value.int ((bytJS.getD i []).getD (nI j).toNatClampNeg 0) = _; rw [nI_clamp (by have := sw_len hi; omega)]; rfl) d_Latin_charAt_8 ?_
    refine lv_sipush (v := 255) hx hb d_Latin_charAt_9 (by decide) ?_
    refine lv_iand hx hb d_Latin_charAt_12 ?_
    refine lv_i2c (v := ((((sw i).getD j 0) &&& 255).toUInt32 % 65536).toInt32) hx hb d_Latin_charAt_13 rfl ?_
    refine hx_top (v := (sw i).getD j 0) (sw_c hi hj) ?_
    exact hret H locs () ((sw i).getD j 0) _ _ hP hD hS ⟨rfl, rfl⟩ d_Latin_charAt_14
  rw [hH, hlo] at goal
  exact goal
set_option maxHeartbeats 4000000 in
set_option maxRecDepth 100000 in
theorem c_String_coder {i : Nat} (hi : i < nJS) : hx_Mi l D tys adK adV tF (fun _ : Unit => []) y_String_coder w_String_coder (rmD 1) [.ref (adK i)] () 0 () := by
  refine hx_Mi.of (cc := b_String_coder) (maxL := 1) rfl (by decide) rfl (Nat.le_of_ble_eq_true rfl) ?_
  intro p e s m below meth c A Q ls hI hX hA hP hD hS hl hret
  obtain ⟨hx, hb, hml, hown, hts⟩ := id hI
  have hts : ∀ w ∈ aw, w.before ([.ref (adK i)] : List Value).toArray s = true := fun w h => hts w (List.mem_cons_of_mem _ h)
  have hown : s.vm.findClass "java/lang/String" = some m.cls := hown
  have hI : hx_In p s m ([.ref (adK i)] : List Value).toArray c b_String_coder 1 "java/lang/String" aw := ⟨hx, hb, hml, hown, hts⟩
  have hP : va_P D vwCl ([]) s.heap := hP
  obtain ⟨H, hH⟩ : ∃ H, H = s.heap := ⟨_, rfl⟩
  obtain ⟨locs, hlo⟩ : ∃ locs : List Loc, locs = [] := ⟨_, rfl⟩
  have hS : va_S A s.heap H locs := by rw [hH, hlo]; exact hS
  have hP : va_P D vwCl ([]) H := by rw [hH]; exact hP
  have hl : lv_has ls 1 [(0, .ref (adK i))] := hl
  have goal : W p l e (rmD 1) s m ([.ref (adK i)] : List Value).toArray below meth c H locs 0 0 Q (F0 m 0 ls []) := by
    refine va_gets hx hb hX.2.2.2.2.1 hS hown (hts _ m_10) (fun _ h9 => h9) d_String_coder_0 ?_
    refine lv_if_eq (tgt := 13) hx hb d_String_coder_3 (by decide) (fun c_3 => ?_) (fun c_3 => ?_)
    · skip
      exact absurd c_3 (by decide)
    · skip
      have c_3 : ¬ ((1 : Int32) = 0) := c_3
      refine lv_aload_n hx hb d_String_coder_6 rfl (lv_at hl 0 rfl) ?_
      refine vk_getf hx hb (hX.2.1 _ hi).2.1 hS hown (hts _ m_11) (fun _ h9 => h9) d_String_coder_7 ?_
      refine lv_goto (tgt := 14) hx hb d_String_coder_10 (by decide) ?_
      exact hret H locs () 0 _ _ hP hD hS ⟨rfl, rfl⟩ d_String_coder_14
  rw [hH, hlo] at goal
  exact goal
set_option maxHeartbeats 4000000 in
set_option maxRecDepth 100000 in
theorem c_String_isLatin1 {i : Nat} (hi : i < nJS) : hx_Mz l D tys adK adV tF (fun _ : Unit => []) y_String_isLatin1 w_String_isLatin1 (rmD 1) [.ref (adK i)] () true () := by
  refine hx_Mz.of (cc := b_String_isLatin1) (maxL := 1) (by decide) rfl (Nat.le_of_ble_eq_true rfl) ?_
  intro p e s m below meth c A Q ls hI hX hA hP hD hS hl hret
  obtain ⟨hx, hb, hml, hown, hts⟩ := id hI
  have hts : ∀ w ∈ aw, w.before ([.ref (adK i)] : List Value).toArray s = true := fun w h => hts w (List.mem_cons_of_mem _ h)
  have hown : s.vm.findClass "java/lang/String" = some m.cls := hown
  have hI : hx_In p s m ([.ref (adK i)] : List Value).toArray c b_String_isLatin1 1 "java/lang/String" aw := ⟨hx, hb, hml, hown, hts⟩
  have hP : va_P D vwCl ([]) s.heap := hP
  obtain ⟨H, hH⟩ : ∃ H, H = s.heap := ⟨_, rfl⟩
  obtain ⟨locs, hlo⟩ : ∃ locs : List Loc, locs = [] := ⟨_, rfl⟩
  have hS : va_S A s.heap H locs := by rw [hH, hlo]; exact hS
  have hP : va_P D vwCl ([]) H := by rw [hH]; exact hP
  have hl : lv_has ls 1 [(0, .ref (adK i))] := hl
  have goal : W p l e (rmD 1) s m ([.ref (adK i)] : List Value).toArray below meth c H locs 0 0 Q (F0 m 0 ls []) := by
    refine va_gets hx hb hX.2.2.2.2.1 hS hown (hts _ m_10) (fun _ h9 => h9) d_String_isLatin1_0 ?_
    refine lv_if_eq (tgt := 17) hx hb d_String_isLatin1_3 (by decide) (fun c_3 => ?_) (fun c_3 => ?_)
    · skip
      exact absurd c_3 (by decide)
    · skip
      have c_3 : ¬ ((1 : Int32) = 0) := c_3
      refine lv_aload_n hx hb d_String_isLatin1_6 rfl (lv_at hl 0 rfl) ?_
      refine vk_getf hx hb (hX.2.1 _ hi).2.1 hS hown (hts _ m_11) (fun _ h9 => h9) d_String_isLatin1_7 ?_
      refine lv_if_ne (tgt := 17) hx hb d_String_isLatin1_10 (by decide) (fun c_10 => ?_) (fun c_10 => ?_)
      · skip
        exact absurd rfl c_10
      · skip
        have c_10 : ((0 : Int32) = 0) := c_10
        refine lv_iconst (v := 1) hx hb d_String_isLatin1_13 (by decide) ?_
        refine lv_goto (tgt := 18) hx hb d_String_isLatin1_14 (by decide) ?_
        exact hret H locs () true _ _ hP hD hS ⟨rfl, rfl⟩ d_String_isLatin1_18
  rw [hH, hlo] at goal
  exact goal
set_option maxHeartbeats 4000000 in
set_option maxRecDepth 100000 in
theorem c_String_length {i : Nat} (hi : i < nJS) : hx_Mi l D tys adK adV tF (fun _ : Unit => []) y_String_length w_String_length (rmD 2) [.ref (adK i)] () (nI (sw i).length) () := by
  refine hx_Mi.of (cc := b_String_length) (maxL := 1) rfl (by decide) rfl (Nat.le_of_ble_eq_true rfl) ?_
  intro p e s m below meth c A Q ls hI hX hA hP hD hS hl hret
  obtain ⟨hx, hb, hml, hown, hts⟩ := id hI
  have hts : ∀ w ∈ aw, w.before ([.ref (adK i)] : List Value).toArray s = true := fun w h => hts w (List.mem_cons_of_mem _ h)
  have hown : s.vm.findClass "java/lang/String" = some m.cls := hown
  have hI : hx_In p s m ([.ref (adK i)] : List Value).toArray c b_String_length 1 "java/lang/String" aw := ⟨hx, hb, hml, hown, hts⟩
  have hP : va_P D vwCl ([]) s.heap := hP
  obtain ⟨H, hH⟩ : ∃ H, H = s.heap := ⟨_, rfl⟩
  obtain ⟨locs, hlo⟩ : ∃ locs : List Loc, locs = [] := ⟨_, rfl⟩
  have hS : va_S A s.heap H locs := by rw [hH, hlo]; exact hS
  have hP : va_P D vwCl ([]) H := by rw [hH]; exact hP
  have hl : lv_has ls 1 [(0, .ref (adK i))] := hl
  have goal : W p l e (rmD 2) s m ([.ref (adK i)] : List Value).toArray below meth c H locs 0 0 Q (F0 m 0 ls []) := by
    refine lv_aload_n hx hb d_String_length_0 rfl (lv_at hl 0 rfl) ?_
    refine vk_getf hx hb (hX.2.1 _ hi).2.2.1 hS hown (hts _ m_12) (fun _ h9 => h9) d_String_length_1 ?_
    refine va_tlen (v := nI (sw i).length) hx hb (hX.2.1 i hi).2.2.2 hS (by rw [(sw_all i hi).2.1]; rfl) d_String_length_4 ?_
    refine lv_aload_n hx hb d_String_length_5 rfl (lv_at hl 0 rfl) ?_
    refine hx_Vi (wr := []) (As := []) (rest := [.int (nI (sw i).length)]) hI (c_String_coder hi) (cw_V (C := "java/lang/String") 0 hts m_13 m_15 m_16 m_9 m_14 (by decide +kernel) ⟨by decide, by decide⟩) hX hA hP hD hS [] [] rfl rfl (by decide) (by decide) (by decide) (va_Orecv (hX.2.1 _ hi).1 hS) rfl hl.1 rfl (Nat.le_of_ble_eq_true rfl) d_String_length_6 ⟨Nat.zero_le _, Nat.zero_le _⟩ (fun H locs hP hD hS => ?_)
    have hP : va_P D vwCl ([]) H := hP
    have hD : va_D A ([]) := hD
    refine lv_ishr hx hb d_String_length_9 ?_
    refine hx_top (v := nI (sw i).length) (sb_shr0 _) ?_
    exact hret H locs () (nI (sw i).length) _ _ hP hD hS ⟨rfl, rfl⟩ d_String_length_10
  rw [hH, hlo] at goal
  exact goal
set_option maxHeartbeats 4000000 in
set_option maxRecDepth 100000 in
theorem c_String_charAt {i : Nat} (hi : i < nJS) {j : Nat} (hj : j < (sw i).length) : hx_Mi l D tys adK adV tF (fun _ : Unit => []) y_String_charAt w_String_charAt (rmD 4) [.ref (adK i), .int (nI j)] () ((sw i).getD j 0) () := by
  refine hx_Mi.of (cc := b_String_charAt) (maxL := 2) (sw_nar hi hj) (by decide) rfl (Nat.le_of_ble_eq_true rfl) ?_
  intro p e s m below meth c A Q ls hI hX hA hP hD hS hl hret
  obtain ⟨hx, hb, hml, hown, hts⟩ := id hI
  have hts : ∀ w ∈ aw, w.before ([.ref (adK i), .int (nI j)] : List Value).toArray s = true := fun w h => hts w (List.mem_cons_of_mem _ h)
  have hown : s.vm.findClass "java/lang/String" = some m.cls := hown
  have hI : hx_In p s m ([.ref (adK i), .int (nI j)] : List Value).toArray c b_String_charAt 2 "java/lang/String" aw := ⟨hx, hb, hml, hown, hts⟩
  have hP : va_P D vwCl ([]) s.heap := hP
  obtain ⟨H, hH⟩ : ∃ H, H = s.heap := ⟨_, rfl⟩
  obtain ⟨locs, hlo⟩ : ∃ locs : List Loc, locs = [] := ⟨_, rfl⟩
  have hS : va_S A s.heap H locs := by rw [hH, hlo]; exact hS
  have hP : va_P D vwCl ([]) H := by rw [hH]; exact hP
  have hl : lv_has ls 2 [(0, .ref (adK i)), (1, .int (nI j))] := hl
  have goal : W p l e (rmD 4) s m ([.ref (adK i), .int (nI j)] : List Value).toArray below meth c H locs 0 0 Q (F0 m 0 ls []) := by
    refine lv_aload_n hx hb d_String_charAt_0 rfl (lv_at hl 0 rfl) ?_
    refine hx_Vz (wr := []) (As := []) (rest := []) hI (c_String_isLatin1 hi) (cw_V (C := "java/lang/String") 0 hts m_17 m_19 m_20 m_9 m_18 (by decide +kernel) ⟨by decide, by decide⟩) hX hA hP hD hS [] [] rfl rfl (by decide) (by decide) (by decide) (va_Orecv (hX.2.1 _ hi).1 hS) rfl hl.1 rfl (Nat.le_of_ble_eq_true rfl) d_String_charAt_1 ⟨Nat.zero_le _, Nat.zero_le _⟩ (fun H locs hP hD hS => ?_)
    have hP : va_P D vwCl ([]) H := hP
    have hD : va_D A ([]) := hD
    refine lv_if_eq (tgt := 16) hx hb d_String_charAt_4 (by decide) (fun c_4 => ?_) (fun c_4 => ?_)
    · skip
      exact absurd c_4 (by decide)
    · skip
      have c_4 : true = true := bI_1 c_4
      refine lv_aload_n hx hb d_String_charAt_7 rfl (lv_at hl 0 rfl) ?_
      refine vk_getf hx hb (hX.2.1 _ hi).2.2.1 hS hown (hts _ m_12) (fun _ h9 => h9) d_String_charAt_8 ?_
      refine lv_iload_n hx hb d_String_charAt_11 rfl (lv_at hl 1 rfl) ?_
      refine hx_Si (wr := []) (As := [.ref (adV i), .int (nI j)]) (rest := []) hI (c_Latin_charAt hi hj) (cw_S 2 hts m_21 m_23 m_24 m_22 (by decide +kernel) ⟨by decide, by decide⟩) hX hA hP hD hS [] [] rfl rfl (by decide) (by decide) (by decide) rfl hl.1 rfl (Nat.le_of_ble_eq_true rfl) d_String_charAt_12 ⟨Nat.zero_le _, Nat.zero_le _⟩ (fun H locs hP hD hS => ?_)
      have hP : va_P D vwCl ([]) H := hP
      have hD : va_D A ([]) := hD
      exact hret H locs () ((sw i).getD j 0) _ _ hP hD hS ⟨rfl, rfl⟩ d_String_charAt_15
  rw [hH, hlo] at goal
  exact goal
end
section
variable {l : Launch} {D : va_G} {ad : Nat → Nat} {cd : Nat → ClassId} {adK adV : Nat → Nat} {tF : Nat} {T : TX} {tys : List (ClassId × FieldType)}

set_option maxHeartbeats 4000000 in
set_option maxRecDepth 100000 in
theorem c_Reader_isDigit (x : Int32) : hx_Mz l D tys adK adV tF (fun _ : Unit => []) y_Reader_isDigit w_Reader_isDigit (rmD 1) [.int x] () (isD x) () := by
  refine hx_Mz.of (cc := b_Reader_isDigit) (maxL := 1) (by decide) rfl (Nat.le_of_ble_eq_true rfl) ?_
  intro p e s m below meth c A Q ls hI hX hA hP hD hS hl hret
  obtain ⟨hx, hb, hml, hown, hts⟩ := id hI
  have hts : ∀ w ∈ aw, w.before ([.int x] : List Value).toArray s = true := fun w h => hts w (List.mem_cons_of_mem _ h)
  have hown : s.vm.findClass "HeadDesk$Reader" = some m.cls := hown
  have hI : hx_In p s m ([.int x] : List Value).toArray c b_Reader_isDigit 1 "HeadDesk$Reader" aw := ⟨hx, hb, hml, hown, hts⟩
  have hP : va_P D vwCl ([]) s.heap := hP
  obtain ⟨H, hH⟩ : ∃ H, H = s.heap := ⟨_, rfl⟩
  obtain ⟨locs, hlo⟩ : ∃ locs : List Loc, locs = [] := ⟨_, rfl⟩
  have hS : va_S A s.heap H locs := by rw [hH, hlo]; exact hS
  have hP : va_P D vwCl ([]) H := by rw [hH]; exact hP
  have hl : lv_has ls 1 [(0, .int x)] := hl
  have goal : W p l e (rmD 1) s m ([.int x] : List Value).toArray below meth c H locs 0 0 Q (F0 m 0 ls []) := by
    refine lv_iload_n hx hb d_Reader_isDigit_0 rfl (lv_at hl 0 rfl) ?_
    refine lv_bipush (v := 48) hx hb d_Reader_isDigit_1 (by decide) ?_
    refine lv_icmp_lt (tgt := 16) hx hb d_Reader_isDigit_3 (by decide) (fun c_3 => ?_) (fun c_3 => ?_)
    · skip
      have c_3 : (x < 48) := c_3
      refine lv_iconst (v := 0) hx hb d_Reader_isDigit_16 (by decide) ?_
      exact hret H locs () false _ _ hP hD hS ⟨(by first | (simp only [isD, if_pos c_3, fStop, if_true, if_false, Bool.false_eq_true, ↓reduceIte]; done) | (simp only [isD, if_pos c_3, fStop, if_true, if_false, Bool.false_eq_true, ↓reduceIte]; with_reducible rfl)), rfl⟩ d_Reader_isDigit_17
    · skip
      have c_3 : ¬ (x < 48) := c_3
      refine lv_iload_n hx hb d_Reader_isDigit_6 rfl (lv_at hl 0 rfl) ?_
      refine lv_bipush (v := 57) hx hb d_Reader_isDigit_7 (by decide) ?_
      refine lv_icmp_gt (tgt := 16) hx hb d_Reader_isDigit_9 (by decide) (fun c_9 => ?_) (fun c_9 => ?_)
      · skip
        have c_9 : (57 < x) := c_9
        refine lv_iconst (v := 0) hx hb d_Reader_isDigit_16 (by decide) ?_
        exact hret H locs () false _ _ hP hD hS ⟨(by first | (simp only [isD, if_neg c_3, if_pos c_9, fStop, if_true, if_false, Bool.false_eq_true, ↓reduceIte]; done) | (simp only [isD, if_neg c_3, if_pos c_9, fStop, if_true, if_false, Bool.false_eq_true, ↓reduceIte]; with_reducible rfl)), rfl⟩ d_Reader_isDigit_17
      · skip
        have c_9 : ¬ (57 < x) := c_9
        refine lv_iconst (v := 1) hx hb d_Reader_isDigit_12 (by decide) ?_
        refine lv_goto (tgt := 17) hx hb d_Reader_isDigit_13 (by decide) ?_
        exact hret H locs () true _ _ hP hD hS ⟨(by first | (simp only [isD, if_neg c_3, if_neg c_9, fStop, if_true, if_false, Bool.false_eq_true, ↓reduceIte]; done) | (simp only [isD, if_neg c_3, if_neg c_9, fStop, if_true, if_false, Bool.false_eq_true, ↓reduceIte]; with_reducible rfl)), rfl⟩ d_Reader_isDigit_17
  rw [hH, hlo] at goal
  exact goal
set_option maxHeartbeats 4000000 in
set_option maxRecDepth 100000 in
theorem c_Reader_isLetter (x : Int32) : hx_Mz l D tys adK adV tF (fun _ : Unit => []) y_Reader_isLetter w_Reader_isLetter (rmD 1) [.int x] () (isL x) () := by
  refine hx_Mz.of (cc := b_Reader_isLetter) (maxL := 1) (by decide) rfl (Nat.le_of_ble_eq_true rfl) ?_
  intro p e s m below meth c A Q ls hI hX hA hP hD hS hl hret
  obtain ⟨hx, hb, hml, hown, hts⟩ := id hI
  have hts : ∀ w ∈ aw, w.before ([.int x] : List Value).toArray s = true := fun w h => hts w (List.mem_cons_of_mem _ h)
  have hown : s.vm.findClass "HeadDesk$Reader" = some m.cls := hown
  have hI : hx_In p s m ([.int x] : List Value).toArray c b_Reader_isLetter 1 "HeadDesk$Reader" aw := ⟨hx, hb, hml, hown, hts⟩
  have hP : va_P D vwCl ([]) s.heap := hP
  obtain ⟨H, hH⟩ : ∃ H, H = s.heap := ⟨_, rfl⟩
  obtain ⟨locs, hlo⟩ : ∃ locs : List Loc, locs = [] := ⟨_, rfl⟩
  have hS : va_S A s.heap H locs := by rw [hH, hlo]; exact hS
  have hP : va_P D vwCl ([]) H := by rw [hH]; exact hP
  have hl : lv_has ls 1 [(0, .int x)] := hl
  have goal : W p l e (rmD 1) s m ([.int x] : List Value).toArray below meth c H locs 0 0 Q (F0 m 0 ls []) := by
    refine lv_iload_n hx hb d_Reader_isLetter_0 rfl (lv_at hl 0 rfl) ?_
    refine lv_bipush (v := 97) hx hb d_Reader_isLetter_1 (by decide) ?_
    refine lv_icmp_lt (tgt := 12) hx hb d_Reader_isLetter_3 (by decide) (fun c_3 => ?_) (fun c_3 => ?_)
    · skip
      have c_3 : (x < 97) := c_3
      refine lv_iload_n hx hb d_Reader_isLetter_12 rfl (lv_at hl 0 rfl) ?_
      refine lv_bipush (v := 45) hx hb d_Reader_isLetter_13 (by decide) ?_
      refine lv_icmp_ne (tgt := 22) hx hb d_Reader_isLetter_15 (by decide) (fun c_15 => ?_) (fun c_15 => ?_)
      · skip
        have c_15 : ¬ (x = 45) := c_15
        refine lv_iconst (v := 0) hx hb d_Reader_isLetter_22 (by decide) ?_
        exact hret H locs () false _ _ hP hD hS ⟨(by first | (simp only [isL, if_pos c_3, if_neg c_15, fStop, if_true, if_false, Bool.false_eq_true, ↓reduceIte]; done) | (simp only [isL, if_pos c_3, if_neg c_15, fStop, if_true, if_false, Bool.false_eq_true, ↓reduceIte]; with_reducible rfl)), rfl⟩ d_Reader_isLetter_23
      · skip
        have c_15 : (x = 45) := c_15
        refine lv_iconst (v := 1) hx hb d_Reader_isLetter_18 (by decide) ?_
        refine lv_goto (tgt := 23) hx hb d_Reader_isLetter_19 (by decide) ?_
        exact hret H locs () true _ _ hP hD hS ⟨(by first | (simp only [isL, if_pos c_3, if_pos c_15, fStop, if_true, if_false, Bool.false_eq_true, ↓reduceIte]; done) | (simp only [isL, if_pos c_3, if_pos c_15, fStop, if_true, if_false, Bool.false_eq_true, ↓reduceIte]; with_reducible rfl)), rfl⟩ d_Reader_isLetter_23
    · skip
      have c_3 : ¬ (x < 97) := c_3
      refine lv_iload_n hx hb d_Reader_isLetter_6 rfl (lv_at hl 0 rfl) ?_
      refine lv_bipush (v := 122) hx hb d_Reader_isLetter_7 (by decide) ?_
      refine lv_icmp_le (tgt := 18) hx hb d_Reader_isLetter_9 (by decide) (fun c_9 => ?_) (fun c_9 => ?_)
      · skip
        have c_9 : (x ≤ 122) := c_9
        refine lv_iconst (v := 1) hx hb d_Reader_isLetter_18 (by decide) ?_
        refine lv_goto (tgt := 23) hx hb d_Reader_isLetter_19 (by decide) ?_
        exact hret H locs () true _ _ hP hD hS ⟨(by first | (simp only [isL, if_neg c_3, if_pos c_9, fStop, if_true, if_false, Bool.false_eq_true, ↓reduceIte]; done) | (simp only [isL, if_neg c_3, if_pos c_9, fStop, if_true, if_false, Bool.false_eq_true, ↓reduceIte]; with_reducible rfl)), rfl⟩ d_Reader_isLetter_23
      · skip
        have c_9 : ¬ (x ≤ 122) := c_9
        refine lv_iload_n hx hb d_Reader_isLetter_12 rfl (lv_at hl 0 rfl) ?_
        refine lv_bipush (v := 45) hx hb d_Reader_isLetter_13 (by decide) ?_
        refine lv_icmp_ne (tgt := 22) hx hb d_Reader_isLetter_15 (by decide) (fun c_15 => ?_) (fun c_15 => ?_)
        · skip
          have c_15 : ¬ (x = 45) := c_15
          refine lv_iconst (v := 0) hx hb d_Reader_isLetter_22 (by decide) ?_
          exact hret H locs () false _ _ hP hD hS ⟨(by first | (simp only [isL, if_neg c_3, if_neg c_9, if_neg c_15, fStop, if_true, if_false, Bool.false_eq_true, ↓reduceIte]; done) | (simp only [isL, if_neg c_3, if_neg c_9, if_neg c_15, fStop, if_true, if_false, Bool.false_eq_true, ↓reduceIte]; with_reducible rfl)), rfl⟩ d_Reader_isLetter_23
        · skip
          have c_15 : (x = 45) := c_15
          refine lv_iconst (v := 1) hx hb d_Reader_isLetter_18 (by decide) ?_
          refine lv_goto (tgt := 23) hx hb d_Reader_isLetter_19 (by decide) ?_
          exact hret H locs () true _ _ hP hD hS ⟨(by first | (simp only [isL, if_neg c_3, if_neg c_9, if_pos c_15, fStop, if_true, if_false, Bool.false_eq_true, ↓reduceIte]; done) | (simp only [isL, if_neg c_3, if_neg c_9, if_pos c_15, fStop, if_true, if_false, Bool.false_eq_true, ↓reduceIte]; with_reducible rfl)), rfl⟩ d_Reader_isLetter_23
  rw [hH, hlo] at goal
  exact goal
set_option maxHeartbeats 4000000 in
set_option maxRecDepth 100000 in
theorem c_Tape_mayStand (x : Int32) : hx_Mz l D tys adK adV tF (fun _ : Unit => []) y_Tape_mayStand w_Tape_mayStand (rmD 1) [.int x] () (mayS x) () := by
  refine hx_Mz.of (cc := b_Tape_mayStand) (maxL := 1) (by decide) rfl (Nat.le_of_ble_eq_true rfl) ?_
  intro p e s m below meth c A Q ls hI hX hA hP hD hS hl hret
  obtain ⟨hx, hb, hml, hown, hts⟩ := id hI
  have hts : ∀ w ∈ aw, w.before ([.int x] : List Value).toArray s = true := fun w h => hts w (List.mem_cons_of_mem _ h)
  have hown : s.vm.findClass "HeadDesk$Tape" = some m.cls := hown
  have hI : hx_In p s m ([.int x] : List Value).toArray c b_Tape_mayStand 1 "HeadDesk$Tape" aw := ⟨hx, hb, hml, hown, hts⟩
  have hP : va_P D vwCl ([]) s.heap := hP
  obtain ⟨H, hH⟩ : ∃ H, H = s.heap := ⟨_, rfl⟩
  obtain ⟨locs, hlo⟩ : ∃ locs : List Loc, locs = [] := ⟨_, rfl⟩
  have hS : va_S A s.heap H locs := by rw [hH, hlo]; exact hS
  have hP : va_P D vwCl ([]) H := by rw [hH]; exact hP
  have hl : lv_has ls 1 [(0, .int x)] := hl
  have goal : W p l e (rmD 1) s m ([.int x] : List Value).toArray below meth c H locs 0 0 Q (F0 m 0 ls []) := by
    refine lv_iload_n hx hb d_Tape_mayStand_0 rfl (lv_at hl 0 rfl) ?_
    refine lv_bipush (v := 10) hx hb d_Tape_mayStand_1 (by decide) ?_
    refine lv_icmp_eq (tgt := 18) hx hb d_Tape_mayStand_3 (by decide) (fun c_3 => ?_) (fun c_3 => ?_)
    · skip
      have c_3 : (x = 10) := c_3
      refine lv_iconst (v := 1) hx hb d_Tape_mayStand_18 (by decide) ?_
      refine lv_goto (tgt := 23) hx hb d_Tape_mayStand_19 (by decide) ?_
      exact hret H locs () true _ _ hP hD hS ⟨(by first | (simp only [mayS, if_pos c_3, fStop, if_true, if_false, Bool.false_eq_true, ↓reduceIte]; done) | (simp only [mayS, if_pos c_3, fStop, if_true, if_false, Bool.false_eq_true, ↓reduceIte]; with_reducible rfl)), rfl⟩ d_Tape_mayStand_23
    · skip
      have c_3 : ¬ (x = 10) := c_3
      refine lv_iload_n hx hb d_Tape_mayStand_6 rfl (lv_at hl 0 rfl) ?_
      refine lv_bipush (v := 32) hx hb d_Tape_mayStand_7 (by decide) ?_
      refine lv_icmp_lt (tgt := 22) hx hb d_Tape_mayStand_9 (by decide) (fun c_9 => ?_) (fun c_9 => ?_)
      · skip
        have c_9 : (x < 32) := c_9
        refine lv_iconst (v := 0) hx hb d_Tape_mayStand_22 (by decide) ?_
        exact hret H locs () false _ _ hP hD hS ⟨(by first | (simp only [mayS, if_neg c_3, if_pos c_9, fStop, if_true, if_false, Bool.false_eq_true, ↓reduceIte]; done) | (simp only [mayS, if_neg c_3, if_pos c_9, fStop, if_true, if_false, Bool.false_eq_true, ↓reduceIte]; with_reducible rfl)), rfl⟩ d_Tape_mayStand_23
      · skip
        have c_9 : ¬ (x < 32) := c_9
        refine lv_iload_n hx hb d_Tape_mayStand_12 rfl (lv_at hl 0 rfl) ?_
        refine lv_bipush (v := 126) hx hb d_Tape_mayStand_13 (by decide) ?_
        refine lv_icmp_gt (tgt := 22) hx hb d_Tape_mayStand_15 (by decide) (fun c_15 => ?_) (fun c_15 => ?_)
        · skip
          have c_15 : (126 < x) := c_15
          refine lv_iconst (v := 0) hx hb d_Tape_mayStand_22 (by decide) ?_
          exact hret H locs () false _ _ hP hD hS ⟨(by first | (simp only [mayS, if_neg c_3, if_neg c_9, if_pos c_15, fStop, if_true, if_false, Bool.false_eq_true, ↓reduceIte]; done) | (simp only [mayS, if_neg c_3, if_neg c_9, if_pos c_15, fStop, if_true, if_false, Bool.false_eq_true, ↓reduceIte]; with_reducible rfl)), rfl⟩ d_Tape_mayStand_23
        · skip
          have c_15 : ¬ (126 < x) := c_15
          refine lv_iconst (v := 1) hx hb d_Tape_mayStand_18 (by decide) ?_
          refine lv_goto (tgt := 23) hx hb d_Tape_mayStand_19 (by decide) ?_
          exact hret H locs () true _ _ hP hD hS ⟨(by first | (simp only [mayS, if_neg c_3, if_neg c_9, if_neg c_15, fStop, if_true, if_false, Bool.false_eq_true, ↓reduceIte]; done) | (simp only [mayS, if_neg c_3, if_neg c_9, if_neg c_15, fStop, if_true, if_false, Bool.false_eq_true, ↓reduceIte]; with_reducible rfl)), rfl⟩ d_Tape_mayStand_23
  rw [hH, hlo] at goal
  exact goal
set_option maxHeartbeats 4000000 in
set_option maxRecDepth 100000 in
theorem c_Tape_byteOf (q : Int64) (x : Int32) : hx_Mi l D tys adK adV tF (fun _ : Unit => []) y_Tape_byteOf w_Tape_byteOf (rmD 1) [.long q, .int x] () (byW q x) () := by
  refine hx_Mi.of (cc := b_Tape_byteOf) (maxL := 3) rfl (by decide) rfl (Nat.le_of_ble_eq_true rfl) ?_
  intro p e s m below meth c A Q ls hI hX hA hP hD hS hl hret
  obtain ⟨hx, hb, hml, hown, hts⟩ := id hI
  have hts : ∀ w ∈ aw, w.before ([.long q, .int x] : List Value).toArray s = true := fun w h => hts w (List.mem_cons_of_mem _ h)
  have hown : s.vm.findClass "HeadDesk$Tape" = some m.cls := hown
  have hI : hx_In p s m ([.long q, .int x] : List Value).toArray c b_Tape_byteOf 3 "HeadDesk$Tape" aw := ⟨hx, hb, hml, hown, hts⟩
  have hP : va_P D vwCl ([]) s.heap := hP
  obtain ⟨H, hH⟩ : ∃ H, H = s.heap := ⟨_, rfl⟩
  obtain ⟨locs, hlo⟩ : ∃ locs : List Loc, locs = [] := ⟨_, rfl⟩
  have hS : va_S A s.heap H locs := by rw [hH, hlo]; exact hS
  have hP : va_P D vwCl ([]) H := by rw [hH]; exact hP
  have hl : lv_has ls 3 [(0, .long q), (2, .int x)] := hl
  have goal : W p l e (rmD 1) s m ([.long q, .int x] : List Value).toArray below meth c H locs 0 0 Q (F0 m 0 ls []) := by
    refine lv_lload_n hx hb d_Tape_byteOf_0 rfl (lv_at hl 0 rfl) ?_
    refine lv_bipush (v := 8) hx hb d_Tape_byteOf_1 (by decide) ?_
    refine lv_iload_n hx hb d_Tape_byteOf_3 rfl (lv_at hl 1 rfl) ?_
    refine lv_imul hx hb d_Tape_byteOf_4 ?_
    refine lv_lushr (v := (q.toUInt64 >>> ((8 * x).toInt64.toUInt64 &&& Int64.toUInt64 63)).toInt64) hx hb d_Tape_byteOf_5 rfl ?_
    refine lv_l2i (v := ((q.toUInt64 >>> ((8 * x).toInt64.toUInt64 &&& Int64.toUInt64 63)).toInt64).toInt32) hx hb d_Tape_byteOf_6 rfl ?_
    refine lv_sipush (v := 255) hx hb d_Tape_byteOf_7 (by decide) ?_
    refine lv_iand hx hb d_Tape_byteOf_10 ?_
    exact hret H locs () ((((q.toUInt64 >>> ((8 * x).toInt64.toUInt64 &&& Int64.toUInt64 63)).toInt64).toInt32) &&& 255) _ _ hP hD hS ⟨(by first | (simp only [byW, fStop, if_true, if_false, Bool.false_eq_true, ↓reduceIte]; done) | (simp only [byW, fStop, if_true, if_false, Bool.false_eq_true, ↓reduceIte]; with_reducible rfl)), rfl⟩ d_Tape_byteOf_11
  rw [hH, hlo] at goal
  exact goal
set_option maxHeartbeats 4000000 in
set_option maxRecDepth 100000 in
theorem c_Tape_markAt (hT : T.2 ≤ 300) (x : Int32) : hx_Mi l D (tyH cd) adK adV tF (tpW ad cd) y_Tape_markAt w_Tape_markAt (rmD 1) [.ref (ad 1), .int x] T (mAt T x) T := by
  refine hx_Mi.of (cc := b_Tape_markAt) (maxL := 2) rfl (by decide) rfl (Nat.le_of_ble_eq_true rfl) ?_
  intro p e s m below meth c A Q ls hI hX hA hP hD hS hl hret
  obtain ⟨hx, hb, hml, hown, hts⟩ := id hI
  have hts : ∀ w ∈ aw, w.before ([.ref (ad 1), .int x] : List Value).toArray s = true := fun w h => hts w (List.mem_cons_of_mem _ h)
  have hown : s.vm.findClass "HeadDesk$Tape" = some m.cls := hown
  have hI : hx_In p s m ([.ref (ad 1), .int x] : List Value).toArray c b_Tape_markAt 2 "HeadDesk$Tape" aw := ⟨hx, hb, hml, hown, hts⟩
  have hP : va_P D vwCl (tpW ad cd T) s.heap := hP
  obtain ⟨H, hH⟩ : ∃ H, H = s.heap := ⟨_, rfl⟩
  obtain ⟨locs, hlo⟩ : ∃ locs : List Loc, locs = [] := ⟨_, rfl⟩
  have hS : va_S A s.heap H locs := by rw [hH, hlo]; exact hS
  have hP : va_P D vwCl (tpW ad cd T) H := by rw [hH]; exact hP
  have hl : lv_has ls 2 [(0, .ref (ad 1)), (1, .int x)] := hl
  have goal : W p l e (rmD 1) s m ([.ref (ad 1), .int x] : List Value).toArray below meth c H locs 0 0 Q (F0 m 0 ls []) := by
    refine lv_iload_n hx hb d_Tape_markAt_0 rfl (lv_at hl 1 rfl) ?_
    refine lv_if_lt (tgt := 21) hx hb d_Tape_markAt_1 (by decide) (fun c_1 => ?_) (fun c_1 => ?_)
    · skip
      have c_1 : (x < 0) := c_1
      refine lv_iconst (v := (-1)) hx hb d_Tape_markAt_21 (by decide) ?_
      exact hret H locs T (-1) _ _ hP hD hS ⟨(by first | (simp only [mAt, if_pos c_1, fStop, if_true, if_false, Bool.false_eq_true, ↓reduceIte]; done) | (simp only [mAt, if_pos c_1, fStop, if_true, if_false, Bool.false_eq_true, ↓reduceIte]; with_reducible rfl)), rfl⟩ d_Tape_markAt_22
    · skip
      have c_1 : ¬ (x < 0) := c_1
      refine lv_iload_n hx hb d_Tape_markAt_4 rfl (lv_at hl 1 rfl) ?_
      refine lv_aload_n hx hb d_Tape_markAt_5 rfl (lv_at hl 0 rfl) ?_
      refine va_get (D := D) (ci := 2) (v := .int T.2) (C := "HeadDesk$Tape") (T := F_Tape) (N := 2) hx hb hts a_Tape hown hX.1 hP 0 rfl rfl 1 (by decide) (hts _ m_25) (fun _ h9 => h9) rfl d_Tape_markAt_6 ?_
      refine lv_icmp_ge (tgt := 21) hx hb d_Tape_markAt_9 (by decide) (fun c_9 => ?_) (fun c_9 => ?_)
      · skip
        have c_9 : (T.2 ≤ x) := c_9
        refine lv_iconst (v := (-1)) hx hb d_Tape_markAt_21 (by decide) ?_
        exact hret H locs T (-1) _ _ hP hD hS ⟨(by first | (simp only [mAt, if_neg c_1, if_pos c_9, fStop, if_true, if_false, Bool.false_eq_true, ↓reduceIte]; done) | (simp only [mAt, if_neg c_1, if_pos c_9, fStop, if_true, if_false, Bool.false_eq_true, ↓reduceIte]; with_reducible rfl)), rfl⟩ d_Tape_markAt_22
      · skip
        have c_9 : ¬ (T.2 ≤ x) := c_9
        refine lv_aload_n hx hb d_Tape_markAt_12 rfl (lv_at hl 0 rfl) ?_
        refine va_get (D := D) (ci := 2) (v := .ref (ad 2)) (C := "HeadDesk$Tape") (T := F_Tape) (N := 2) hx hb hts a_Tape hown hX.1 hP 0 rfl rfl 0 (by decide) (hts _ m_26) (fun _ h9 => h9) rfl d_Tape_markAt_13 ?_
        refine lv_iload_n hx hb d_Tape_markAt_16 rfl (lv_at hl 1 rfl) ?_
        refine va_cald hx hb hX.1 hP 1 0 rfl rfl (mAt_in hT c_1 c_9) d_Tape_markAt_17 ?_
        refine lv_goto (tgt := 22) hx hb d_Tape_markAt_18 (by decide) ?_
        exact hret H locs T (T.1 x.toNatClampNeg) _ _ hP hD hS ⟨(by first | (simp only [mAt, if_neg c_1, if_neg c_9, fStop, if_true, if_false, Bool.false_eq_true, ↓reduceIte]; done) | (simp only [mAt, if_neg c_1, if_neg c_9, fStop, if_true, if_false, Bool.false_eq_true, ↓reduceIte]; with_reducible rfl)), rfl⟩ d_Tape_markAt_22
  rw [hH, hlo] at goal
  exact goal
set_option maxHeartbeats 4000000 in
set_option maxRecDepth 100000 in
theorem c_Tape_append (hT : T.2 ≤ 300) (hT0 : 0 ≤ T.2) (q : Int64) (x : Int32) : hx_Mz l D (tyH cd) adK adV tF (tpW ad cd) y_Tape_append w_Tape_append (rmD 2) [.ref (ad 1), .long q, .int x] T ((fApp T q x).1) ((fApp T q x).2) := by
  refine hx_Mz.of (cc := b_Tape_append) (maxL := 5) (by decide) rfl (Nat.le_of_ble_eq_true rfl) ?_
  intro p e s m below meth c A Q ls hI hX hA hP hD hS hl hret
  obtain ⟨hx, hb, hml, hown, hts⟩ := id hI
  have hts : ∀ w ∈ aw, w.before ([.ref (ad 1), .long q, .int x] : List Value).toArray s = true := fun w h => hts w (List.mem_cons_of_mem _ h)
  have hown : s.vm.findClass "HeadDesk$Tape" = some m.cls := hown
  have hI : hx_In p s m ([.ref (ad 1), .long q, .int x] : List Value).toArray c b_Tape_append 5 "HeadDesk$Tape" aw := ⟨hx, hb, hml, hown, hts⟩
  have hP : va_P D vwCl (tpW ad cd T) s.heap := hP
  obtain ⟨H, hH⟩ : ∃ H, H = s.heap := ⟨_, rfl⟩
  obtain ⟨locs, hlo⟩ : ∃ locs : List Loc, locs = [] := ⟨_, rfl⟩
  have hS : va_S A s.heap H locs := by rw [hH, hlo]; exact hS
  have hP : va_P D vwCl (tpW ad cd T) H := by rw [hH]; exact hP
  have hl : lv_has ls 5 [(0, .ref (ad 1)), (1, .long q), (3, .int x)] := hl
  have goal : W p l e (rmD 2) s m ([.ref (ad 1), .long q, .int x] : List Value).toArray below meth c H locs 0 0 Q (F0 m 0 ls []) := by
    refine lv_iload_n hx hb d_Tape_append_0 rfl (lv_at hl 2 rfl) ?_
    refine lv_iconst (v := 1) hx hb d_Tape_append_1 (by decide) ?_
    refine lv_icmp_lt (tgt := 23) hx hb d_Tape_append_2 (by decide) (fun c_2 => ?_) (fun c_2 => ?_)
    · skip
      have c_2 : (x < 1) := c_2
      refine lv_iconst (v := 0) hx hb d_Tape_append_23 (by decide) ?_
      exact hret H locs T false _ _ hP hD hS (pr2 (by first | (simp only [fApp, if_pos c_2, fStop, if_true, if_false, Bool.false_eq_true, ↓reduceIte]; done) | (simp only [fApp, if_pos c_2, fStop, if_true, if_false, Bool.false_eq_true, ↓reduceIte]; with_reducible rfl))) d_Tape_append_24
    · skip
      have c_2 : ¬ (x < 1) := c_2
      refine lv_iload_n hx hb d_Tape_append_5 rfl (lv_at hl 2 rfl) ?_
      refine lv_bipush (v := 8) hx hb d_Tape_append_6 (by decide) ?_
      refine lv_icmp_gt (tgt := 23) hx hb d_Tape_append_8 (by decide) (fun c_8 => ?_) (fun c_8 => ?_)
      · skip
        have c_8 : (8 < x) := c_8
        refine lv_iconst (v := 0) hx hb d_Tape_append_23 (by decide) ?_
        exact hret H locs T false _ _ hP hD hS (pr2 (by first | (simp only [fApp, if_neg c_2, if_pos c_8, fStop, if_true, if_false, Bool.false_eq_true, ↓reduceIte]; done) | (simp only [fApp, if_neg c_2, if_pos c_8, fStop, if_true, if_false, Bool.false_eq_true, ↓reduceIte]; with_reducible rfl))) d_Tape_append_24
      · skip
        have c_8 : ¬ (8 < x) := c_8
        refine lv_iload_n hx hb d_Tape_append_11 rfl (lv_at hl 2 rfl) ?_
        refine lv_sipush (v := 300) hx hb d_Tape_append_12 (by decide) ?_
        refine lv_aload_n hx hb d_Tape_append_15 rfl (lv_at hl 0 rfl) ?_
        refine va_get (D := D) (ci := 2) (v := .int T.2) (C := "HeadDesk$Tape") (T := F_Tape) (N := 2) hx hb hts a_Tape hown hX.1 hP 0 rfl rfl 1 (by decide) (hts _ m_25) (fun _ h9 => h9) rfl d_Tape_append_16 ?_
        refine lv_isub hx hb d_Tape_append_19 ?_
        refine lv_icmp_le (tgt := 25) hx hb d_Tape_append_20 (by decide) (fun c_20 => ?_) (fun c_20 => ?_)
        · skip
          have c_20 : (x ≤ 300 - T.2) := c_20
          have hap := ap_st c_2 c_8 hT0 hT c_20
          refine lv_iconst (v := 0) hx hb d_Tape_append_25 (by decide) ?_
          refine lv_istore (lv' := [(4, .int 0), (0, .ref (ad 1)), (1, .long q), (3, .int x)]) hx hb d_Tape_append_26 hl (by decide) rfl (fun ls hl => ?_)
          have loop28 : ∀ (k : Nat) (j : Nat) (H : Heap) (locs : List Loc) (ls : Array Slot), j + k = x.toNatClampNeg → fApp T q x = (if appOk q k j = true then (true, appW q x.toNatClampNeg T) else (false, T)) → va_P D vwCl (tpW ad cd T) H → va_D A (tpW ad cd T) → va_S A s.heap H locs → lv_has ls 5 [(4, .int (nI j)), (0, .ref (ad 1)), (1, .long q), (3, .int x)] → W p l e (rmD 2) s m ([.ref (ad 1), .long q, .int x] : List Value).toArray below meth c H locs 0 0 Q (F0 m 28 ls []) := by
            intro k
            induction k with
            | zero =>
              intro j H locs ls hj hF hP hD hS hl
              refine lv_iload hx hb d_Tape_append_28 (lv_at hl 0 rfl) ?_
              refine lv_iload_n hx hb d_Tape_append_30 rfl (lv_at hl 3 rfl) ?_
              refine lv_icmp_ge (tgt := 54) hx hb d_Tape_append_31 (by decide) (fun c_31 => ?_) (fun c_31 => ?_)
              · skip
                have c_31 : (x ≤ nI j) := c_31
                refine lv_iload_n hx hb d_Tape_append_54 rfl (lv_at hl 3 rfl) ?_
                refine lv_iconst (v := 1) hx hb d_Tape_append_55 (by decide) ?_
                refine lv_isub hx hb d_Tape_append_56 ?_
                refine hx_top (v := nI x.toNatClampNeg - 1) (by rw [← hap.2.1]) ?_
                refine lv_istore (lv' := [(4, .int (nI x.toNatClampNeg - 1)), (0, .ref (ad 1)), (1, .long q), (3, .int x)]) hx hb d_Tape_append_57 hl (by decide) rfl (fun ls hl => ?_)
                have loop59 : ∀ (k : Nat) (s1 : TX) (H : Heap) (locs : List Loc) (ls : Array Slot), 0 ≤ s1.2 ∧ s1.2.toInt + (k : Int) ≤ 300 → fApp T q x = (true, appW q k s1) → va_P D vwCl (tpW ad cd s1) H → va_D A (tpW ad cd s1) → va_S A s.heap H locs → lv_has ls 5 [(4, .int (nI k - 1)), (0, .ref (ad 1)), (1, .long q), (3, .int x)] → W p l e (rmD 2) s m ([.ref (ad 1), .long q, .int x] : List Value).toArray below meth c H locs 0 0 Q (F0 m 59 ls []) := by
                  intro k
                  induction k with
                  | zero =>
                    intro s1 H locs ls hk hF hP hD hS hl
                    refine lv_iload hx hb d_Tape_append_59 (lv_at hl 0 rfl) ?_
                    refine lv_if_lt (tgt := 96) hx hb d_Tape_append_61 (by decide) (fun c_61 => ?_) (fun c_61 => ?_)
                    · skip
                      have c_61 : (nI 0 - 1 < 0) := c_61
                      refine lv_iconst (v := 1) hx hb d_Tape_append_96 (by decide) ?_
                      exact hret H locs s1 true _ _ hP hD hS (pr2 (by first | (rw [hF]; ((try simp only [appW]) <;> simp only [appW, if_pos c_61, fStop, if_true, if_false, Bool.false_eq_true, ↓reduceIte]); done) | (rw [hF]; ((try simp only [appW]) <;> simp only [appW, if_pos c_61, fStop, if_true, if_false, Bool.false_eq_true, ↓reduceIte]); with_reducible rfl))) d_Tape_append_97
                    · skip
                      exact absurd (by decide) c_61
                  | succ k ih =>
                    intro s1 H locs ls hk hF hP hD hS hl
                    have hl : lv_has ls 5 [(4, .int (nI k)), (0, .ref (ad 1)), (1, .long q), (3, .int x)] := by rw [nI_pred] at hl; exact hl
                    refine lv_iload hx hb d_Tape_append_59 (lv_at hl 0 rfl) ?_
                    refine lv_if_lt (tgt := 96) hx hb d_Tape_append_61 (by decide) (fun c_61 => ?_) (fun c_61 => ?_)
                    · skip
                      exact absurd c_61 (nI_pos (ap_k hk.1 hk.2))
                    · skip
                      have c_61 : ¬ (nI k < 0) := c_61
                      refine lv_aload_n hx hb d_Tape_append_64 rfl (lv_at hl 1 rfl) ?_
                      refine va_get (D := D) (ci := 2) (v := .ref (ad 2)) (C := "HeadDesk$Tape") (T := F_Tape) (N := 2) hx hb hts a_Tape hown hX.1 hP 0 rfl rfl 0 (by decide) (hts _ m_26) (fun _ h9 => h9) rfl d_Tape_append_65 ?_
                      refine lv_aload_n hx hb d_Tape_append_68 rfl (lv_at hl 1 rfl) ?_
                      refine va_get (D := D) (ci := 2) (v := .int s1.2) (C := "HeadDesk$Tape") (T := F_Tape) (N := 2) hx hb hts a_Tape hown hX.1 hP 0 rfl rfl 1 (by decide) (hts _ m_25) (fun _ h9 => h9) rfl d_Tape_append_69 ?_
                      refine lv_lload_n hx hb d_Tape_append_72 rfl (lv_at hl 2 rfl) ?_
                      refine lv_iload hx hb d_Tape_append_73 (lv_at hl 0 rfl) ?_
                      refine hx_Si (wr := [(ad 1, .inr (2, [.ref (ad 2), .int (s1.2)])), (ad 2, .inl (cd 0, 300, .inl s1.1))]) (As := [.long q, .int (nI k)]) (rest := [.int s1.2, .ref (ad 2)]) hI (c_Tape_byteOf q (nI k)) (cw_S 2 hts m_27 m_29 m_30 m_28 (by decide +kernel) ⟨by decide, by decide⟩) hX hA hP hD hS [] [0, 1] rfl rfl (by decide) (by decide) (by decide) rfl hl.1 rfl (Nat.le_of_ble_eq_true rfl) d_Tape_append_75 ⟨Nat.zero_le _, Nat.zero_le _⟩ (fun H locs hP hD hS => ?_)
                      have hP : va_P D vwCl (tpW ad cd s1) H := hP.sub [0, 1] rfl
                      have hD : va_D A (tpW ad cd s1) := hD.sub [0, 1] (by decide) rfl
                      refine lv_i2c (v := ((byW q (nI k)).toUInt32 % 65536).toInt32) hx hb d_Tape_append_78 rfl ?_
                      refine va_cast hx hb hX.1 hP hD hS 1 0 rfl rfl (ap_in hk.1 hk.2) d_Tape_append_79 (fun H locs hP hD hS => ?_)
                      have hP : va_P D vwCl (tpW ad cd (upd s1.1 s1.2.toNatClampNeg (vp_nar .char (((byW q (nI k)).toUInt32 % 65536).toInt32)), s1.2)) H := hP
                      have hD : va_D A (tpW ad cd (upd s1.1 s1.2.toNatClampNeg (vp_nar .char (((byW q (nI k)).toUInt32 % 65536).toInt32)), s1.2)) := hD
                      refine lv_aload_n hx hb d_Tape_append_80 rfl (lv_at hl 1 rfl) ?_
                      refine lv_dup hx hb d_Tape_append_81 rfl ?_
                      refine va_get (D := D) (ci := 2) (v := .int s1.2) (C := "HeadDesk$Tape") (T := F_Tape) (N := 2) hx hb hts a_Tape hown hX.1 hP 0 rfl rfl 1 (by decide) (hts _ m_25) (fun _ h9 => h9) rfl d_Tape_append_82 ?_
                      refine lv_iconst (v := 1) hx hb d_Tape_append_85 (by decide) ?_
                      refine lv_iadd hx hb d_Tape_append_86 ?_
                      refine va_put (D := D) (ci := 2) (v := .int (s1.2 + 1)) (ty := .int) (C := "HeadDesk$Tape") (T := F_Tape) (N := 2) hx hb hts a_Tape t_Tape k_Tape n_Tape hown hX.1 hP hD hS 0 rfl rfl 1 (by decide) (hts _ m_25) (fun _ h9 => h9) rfl (by decide +kernel) rfl rfl (Nat.le_of_ble_eq_true rfl) d_Tape_append_87 (fun H locs hP hD hS => ?_)
                      have hP : va_P D vwCl (tpW ad cd ((upd s1.1 s1.2.toNatClampNeg (vp_nar .char (((byW q (nI k)).toUInt32 % 65536).toInt32)), s1.2).1, s1.2 + 1)) H := hP
                      have hD : va_D A (tpW ad cd ((upd s1.1 s1.2.toNatClampNeg (vp_nar .char (((byW q (nI k)).toUInt32 % 65536).toInt32)), s1.2).1, s1.2 + 1)) := hD
                      refine lv_iinc (v := nI k - 1) (lv' := [(4, .int (nI k - 1)), (0, .ref (ad 1)), (1, .long q), (3, .int x)]) hx hb d_Tape_append_90 hl (k := 0) rfl (i_m1 _) (by decide) rfl (fun ls hl => ?_)
                      refine lv_goto (tgt := 59) hx hb d_Tape_append_93 (by decide) ?_
                      exact ih ((upd s1.1 s1.2.toNatClampNeg (vp_nar .char (((byW q (nI k)).toUInt32 % 65536).toInt32)), s1.2).1, s1.2 + 1) H locs ls (ap_nx hk.1 hk.2) (by rw [hF]; rfl) hP hD hS (lv_sub hl [0, 1, 2, 3] rfl)
                exact loop59 x.toNatClampNeg  T H locs ls (⟨hT0, hap.1⟩) (by rw [hF]; simp only [appOk, if_true, ↓reduceIte]) hP hD hS (lv_sub hl [0, 1, 2, 3] rfl)
              · skip
                exact absurd (nI_cyes (by omega) (by have := cl_le x; omega)) c_31
            | succ k ih =>
              intro j H locs ls hj hF hP hD hS hl
              refine lv_iload hx hb d_Tape_append_28 (lv_at hl 0 rfl) ?_
              refine lv_iload_n hx hb d_Tape_append_30 rfl (lv_at hl 3 rfl) ?_
              refine lv_icmp_ge (tgt := 54) hx hb d_Tape_append_31 (by decide) (fun c_31 => ?_) (fun c_31 => ?_)
              · skip
                exact absurd c_31 (nI_cno (by omega))
              · skip
                have c_31 : ¬ (x ≤ nI j) := c_31
                refine lv_lload_n hx hb d_Tape_append_34 rfl (lv_at hl 2 rfl) ?_
                refine lv_iload hx hb d_Tape_append_35 (lv_at hl 0 rfl) ?_
                refine hx_Si (wr := [(ad 1, .inr (2, [.ref (ad 2), .int (T.2)])), (ad 2, .inl (cd 0, 300, .inl T.1))]) (As := [.long q, .int (nI j)]) (rest := []) hI (c_Tape_byteOf q (nI j)) (cw_S 2 hts m_27 m_29 m_30 m_28 (by decide +kernel) ⟨by decide, by decide⟩) hX hA hP hD hS [] [0, 1] rfl rfl (by decide) (by decide) (by decide) rfl hl.1 rfl (Nat.le_of_ble_eq_true rfl) d_Tape_append_37 ⟨Nat.zero_le _, Nat.zero_le _⟩ (fun H locs hP hD hS => ?_)
                have hP : va_P D vwCl (tpW ad cd T) H := hP.sub [0, 1] rfl
                have hD : va_D A (tpW ad cd T) := hD.sub [0, 1] (by decide) rfl
                refine hx_Sz (wr := [(ad 1, .inr (2, [.ref (ad 2), .int (T.2)])), (ad 2, .inl (cd 0, 300, .inl T.1))]) (As := [.int (byW q (nI j))]) (rest := []) hI (c_Tape_mayStand (byW q (nI j))) (cw_S 1 hts m_31 m_33 m_30 m_32 (by decide +kernel) ⟨by decide, by decide⟩) hX hA hP hD hS [] [0, 1] rfl rfl (by decide) (by decide) (by decide) rfl hl.1 rfl (Nat.le_of_ble_eq_true rfl) d_Tape_append_40 ⟨Nat.zero_le _, Nat.zero_le _⟩ (fun H locs hP hD hS => ?_)
                have hP : va_P D vwCl (tpW ad cd T) H := hP.sub [0, 1] rfl
                have hD : va_D A (tpW ad cd T) := hD.sub [0, 1] (by decide) rfl
                refine lv_if_ne (tgt := 48) hx hb d_Tape_append_43 (by decide) (fun c_43 => ?_) (fun c_43 => ?_)
                · skip
                  have c_43 : (mayS (byW q (nI j))) = true := bI_1 c_43
                  refine lv_iinc (v := nI (j + 1)) (lv' := [(4, .int (nI (j + 1))), (0, .ref (ad 1)), (1, .long q), (3, .int x)]) hx hb d_Tape_append_48 hl (k := 0) rfl (by rw [nI_succ]; rfl) (by decide) rfl (fun ls hl => ?_)
                  refine lv_goto (tgt := 28) hx hb d_Tape_append_51 (by decide) ?_
                  exact ih (j + 1)  H locs ls (by omega)  (by first | (rw [hF]; ((try simp only [appOk]) <;> simp only [appOk, if_neg c_31, c_43, fStop, if_true, if_false, Bool.false_eq_true, ↓reduceIte]); done) | (rw [hF]; ((try simp only [appOk]) <;> simp only [appOk, if_neg c_31, c_43, fStop, if_true, if_false, Bool.false_eq_true, ↓reduceIte]); with_reducible rfl)) hP hD hS (lv_sub hl [0, 1, 2, 3] rfl)
                · skip
                  have c_43 : (mayS (byW q (nI j))) = false := bI_0 c_43
                  refine lv_iconst (v := 0) hx hb d_Tape_append_46 (by decide) ?_
                  exact hret H locs T false _ _ hP hD hS (pr2 (by first | (rw [hF]; ((try simp only [appOk]) <;> simp only [appOk, if_neg c_31, c_43, fStop, if_true, if_false, Bool.false_eq_true, ↓reduceIte]); done) | (rw [hF]; ((try simp only [appOk]) <;> simp only [appOk, if_neg c_31, c_43, fStop, if_true, if_false, Bool.false_eq_true, ↓reduceIte]); with_reducible rfl))) d_Tape_append_47
          exact loop28 x.toNatClampNeg 0  H locs ls (by omega) (by simp only [fApp, if_neg c_2, if_neg c_8, if_pos c_20]) hP hD hS (lv_sub hl [0, 1, 2, 3] rfl)
        · skip
          have c_20 : ¬ (x ≤ 300 - T.2) := c_20
          refine lv_iconst (v := 0) hx hb d_Tape_append_23 (by decide) ?_
          exact hret H locs T false _ _ hP hD hS (pr2 (by first | (simp only [fApp, if_neg c_2, if_neg c_8, if_neg c_20, fStop, if_true, if_false, Bool.false_eq_true, ↓reduceIte]; done) | (simp only [fApp, if_neg c_2, if_neg c_8, if_neg c_20, fStop, if_true, if_false, Bool.false_eq_true, ↓reduceIte]; with_reducible rfl))) d_Tape_append_24
  rw [hH, hlo] at goal
  exact goal
set_option maxHeartbeats 4000000 in
set_option maxRecDepth 100000 in
theorem c_Tape_empty  : hx_Mv l D (tyH cd) adK adV tF (tpW ad cd) y_Tape_empty w_Tape_empty (rmD 1) [.ref (ad 1)] T (T.1, 0) := by
  refine hx_Mv.of (cc := b_Tape_empty) (maxL := 1) (by decide) rfl (Nat.le_of_ble_eq_true rfl) ?_
  intro p e s m below meth c A Q ls hI hX hA hP hD hS hl hret
  obtain ⟨hx, hb, hml, hown, hts⟩ := id hI
  have hts : ∀ w ∈ aw, w.before ([.ref (ad 1)] : List Value).toArray s = true := fun w h => hts w (List.mem_cons_of_mem _ h)
  have hown : s.vm.findClass "HeadDesk$Tape" = some m.cls := hown
  have hI : hx_In p s m ([.ref (ad 1)] : List Value).toArray c b_Tape_empty 1 "HeadDesk$Tape" aw := ⟨hx, hb, hml, hown, hts⟩
  have hP : va_P D vwCl (tpW ad cd T) s.heap := hP
  obtain ⟨H, hH⟩ : ∃ H, H = s.heap := ⟨_, rfl⟩
  obtain ⟨locs, hlo⟩ : ∃ locs : List Loc, locs = [] := ⟨_, rfl⟩
  have hS : va_S A s.heap H locs := by rw [hH, hlo]; exact hS
  have hP : va_P D vwCl (tpW ad cd T) H := by rw [hH]; exact hP
  have hl : lv_has ls 1 [(0, .ref (ad 1))] := hl
  have goal : W p l e (rmD 1) s m ([.ref (ad 1)] : List Value).toArray below meth c H locs 0 0 Q (F0 m 0 ls []) := by
    refine lv_aload_n hx hb d_Tape_empty_0 rfl (lv_at hl 0 rfl) ?_
    refine lv_iconst (v := 0) hx hb d_Tape_empty_1 (by decide) ?_
    refine va_put (D := D) (ci := 2) (v := .int 0) (ty := .int) (C := "HeadDesk$Tape") (T := F_Tape) (N := 2) hx hb hts a_Tape t_Tape k_Tape n_Tape hown hX.1 hP hD hS 0 rfl rfl 1 (by decide) (hts _ m_25) (fun _ h9 => h9) rfl (by decide +kernel) rfl rfl (Nat.le_of_ble_eq_true rfl) d_Tape_empty_2 (fun H locs hP hD hS => ?_)
    have hP : va_P D vwCl (tpW ad cd (T.1, 0)) H := hP
    have hD : va_D A (tpW ad cd (T.1, 0)) := hD
    exact hret H locs (T.1, 0) _ _ hP hD hS rfl d_Tape_empty_5
  rw [hH, hlo] at goal
  exact goal
end
section
variable {l : Launch} {D : va_G} {ad : Nat → Nat} {cd : Nat → ClassId} {adK adV : Nat → Nat} {tF : Nat} {T : TX} {tys : List (ClassId × FieldType)}
variable {ah av ar : Nat} {cv cr : ClassId} {tv tr : Nat}

set_option maxHeartbeats 4000000 in
set_option maxRecDepth 100000 in
theorem c_Head_set (htv : tys[tv]? = some (cv, FieldType.int)) (htr : tys[tr]? = some (cr, FieldType.int)) (q : (Nat → Int32) × (Nat → Int32)) (x : Int32) (z : Int32) : hx_Mv l D tys adK adV tF (hdW ah av ar cv cr) y_Head_set w_Head_set (rmD 1) [.ref ah, .int x, .int z] q (hSet q.1 x z, q.2) := by
  refine hx_Mv.of (cc := b_Head_set) (maxL := 3) (by decide) rfl (Nat.le_of_ble_eq_true rfl) ?_
  intro p e s m below meth c A Q ls hI hX hA hP hD hS hl hret
  obtain ⟨hx, hb, hml, hown, hts⟩ := id hI
  have hts : ∀ w ∈ aw, w.before ([.ref ah, .int x, .int z] : List Value).toArray s = true := fun w h => hts w (List.mem_cons_of_mem _ h)
  have hown : s.vm.findClass "HeadDesk$Head" = some m.cls := hown
  have hI : hx_In p s m ([.ref ah, .int x, .int z] : List Value).toArray c b_Head_set 3 "HeadDesk$Head" aw := ⟨hx, hb, hml, hown, hts⟩
  have hP : va_P D vwCl (hdW ah av ar cv cr q) s.heap := hP
  obtain ⟨H, hH⟩ : ∃ H, H = s.heap := ⟨_, rfl⟩
  obtain ⟨locs, hlo⟩ : ∃ locs : List Loc, locs = [] := ⟨_, rfl⟩
  have hS : va_S A s.heap H locs := by rw [hH, hlo]; exact hS
  have hP : va_P D vwCl (hdW ah av ar cv cr q) H := by rw [hH]; exact hP
  have hl : lv_has ls 3 [(0, .ref ah), (1, .int x), (2, .int z)] := hl
  have goal : W p l e (rmD 1) s m ([.ref ah, .int x, .int z] : List Value).toArray below meth c H locs 0 0 Q (F0 m 0 ls []) := by
    refine lv_iload_n hx hb d_Head_set_0 rfl (lv_at hl 1 rfl) ?_
    refine lv_if_lt (tgt := 20) hx hb d_Head_set_1 (by decide) (fun c_1 => ?_) (fun c_1 => ?_)
    · skip
      have c_1 : (x < 0) := c_1
      exact hret H locs q _ _ hP hD hS (by first | (simp only [hSet, if_pos c_1, fStop, if_true, if_false, Bool.false_eq_true, ↓reduceIte]; done) | (simp only [hSet, if_pos c_1, fStop, if_true, if_false, Bool.false_eq_true, ↓reduceIte]; with_reducible rfl)) d_Head_set_20
    · skip
      have c_1 : ¬ (x < 0) := c_1
      refine lv_iload_n hx hb d_Head_set_4 rfl (lv_at hl 1 rfl) ?_
      refine lv_aload_n hx hb d_Head_set_5 rfl (lv_at hl 0 rfl) ?_
      refine va_get (D := D) (ci := 0) (v := .ref av) (C := "HeadDesk$Head") (T := F_Head) (N := 2) hx hb hts a_Head hown hX.1 hP 0 rfl rfl 0 (by decide) (hts _ m_34) (fun _ h9 => h9) rfl d_Head_set_6 ?_
      refine va_alen (v := 18) hx hb hX.1 hP 1 tv rfl htv rfl d_Head_set_9 ?_
      refine lv_icmp_ge (tgt := 20) hx hb d_Head_set_10 (by decide) (fun c_10 => ?_) (fun c_10 => ?_)
      · skip
        have c_10 : (18 ≤ x) := c_10
        exact hret H locs q _ _ hP hD hS (by first | (simp only [hSet, if_neg c_1, if_pos c_10, fStop, if_true, if_false, Bool.false_eq_true, ↓reduceIte]; done) | (simp only [hSet, if_neg c_1, if_pos c_10, fStop, if_true, if_false, Bool.false_eq_true, ↓reduceIte]; with_reducible rfl)) d_Head_set_20
      · skip
        have c_10 : ¬ (18 ≤ x) := c_10
        refine lv_aload_n hx hb d_Head_set_13 rfl (lv_at hl 0 rfl) ?_
        refine va_get (D := D) (ci := 0) (v := .ref av) (C := "HeadDesk$Head") (T := F_Head) (N := 2) hx hb hts a_Head hown hX.1 hP 0 rfl rfl 0 (by decide) (hts _ m_34) (fun _ h9 => h9) rfl d_Head_set_14 ?_
        refine lv_iload_n hx hb d_Head_set_17 rfl (lv_at hl 1 rfl) ?_
        refine lv_iload_n hx hb d_Head_set_18 rfl (lv_at hl 2 rfl) ?_
        refine va_iast hx hb hX.1 hP hD hS 1 tv rfl htv (hix18 c_1 c_10) d_Head_set_19 (fun H locs hP hD hS => ?_)
        have hP : va_P D vwCl (hdW ah av ar cv cr (upd q.1 x.toNatClampNeg z, q.2)) H := hP
        have hD : va_D A (hdW ah av ar cv cr (upd q.1 x.toNatClampNeg z, q.2)) := hD
        exact hret H locs (upd q.1 x.toNatClampNeg z, q.2) _ _ hP hD hS (by first | (simp only [hSet, if_neg c_1, if_neg c_10, fStop, if_true, if_false, Bool.false_eq_true, ↓reduceIte]; done) | (simp only [hSet, if_neg c_1, if_neg c_10, fStop, if_true, if_false, Bool.false_eq_true, ↓reduceIte]; with_reducible rfl)) d_Head_set_20
  rw [hH, hlo] at goal
  exact goal
set_option maxHeartbeats 4000000 in
set_option maxRecDepth 100000 in
theorem c_Head_get (htv : tys[tv]? = some (cv, FieldType.int)) (htr : tys[tr]? = some (cr, FieldType.int)) (q : (Nat → Int32) × (Nat → Int32)) (x : Int32) : hx_Mi l D tys adK adV tF (hdW ah av ar cv cr) y_Head_get w_Head_get (rmD 1) [.ref ah, .int x] q (hGet q.1 x) q := by
  refine hx_Mi.of (cc := b_Head_get) (maxL := 2) rfl (by decide) rfl (Nat.le_of_ble_eq_true rfl) ?_
  intro p e s m below meth c A Q ls hI hX hA hP hD hS hl hret
  obtain ⟨hx, hb, hml, hown, hts⟩ := id hI
  have hts : ∀ w ∈ aw, w.before ([.ref ah, .int x] : List Value).toArray s = true := fun w h => hts w (List.mem_cons_of_mem _ h)
  have hown : s.vm.findClass "HeadDesk$Head" = some m.cls := hown
  have hI : hx_In p s m ([.ref ah, .int x] : List Value).toArray c b_Head_get 2 "HeadDesk$Head" aw := ⟨hx, hb, hml, hown, hts⟩
  have hP : va_P D vwCl (hdW ah av ar cv cr q) s.heap := hP
  obtain ⟨H, hH⟩ : ∃ H, H = s.heap := ⟨_, rfl⟩
  obtain ⟨locs, hlo⟩ : ∃ locs : List Loc, locs = [] := ⟨_, rfl⟩
  have hS : va_S A s.heap H locs := by rw [hH, hlo]; exact hS
  have hP : va_P D vwCl (hdW ah av ar cv cr q) H := by rw [hH]; exact hP
  have hl : lv_has ls 2 [(0, .ref ah), (1, .int x)] := hl
  have goal : W p l e (rmD 1) s m ([.ref ah, .int x] : List Value).toArray below meth c H locs 0 0 Q (F0 m 0 ls []) := by
    refine lv_iload_n hx hb d_Head_get_0 rfl (lv_at hl 1 rfl) ?_
    refine lv_if_lt (tgt := 22) hx hb d_Head_get_1 (by decide) (fun c_1 => ?_) (fun c_1 => ?_)
    · skip
      have c_1 : (x < 0) := c_1
      refine lv_iconst (v := (-1)) hx hb d_Head_get_22 (by decide) ?_
      exact hret H locs q (-1) _ _ hP hD hS ⟨(by first | (simp only [hGet, if_pos c_1, fStop, if_true, if_false, Bool.false_eq_true, ↓reduceIte]; done) | (simp only [hGet, if_pos c_1, fStop, if_true, if_false, Bool.false_eq_true, ↓reduceIte]; with_reducible rfl)), rfl⟩ d_Head_get_23
    · skip
      have c_1 : ¬ (x < 0) := c_1
      refine lv_iload_n hx hb d_Head_get_4 rfl (lv_at hl 1 rfl) ?_
      refine lv_aload_n hx hb d_Head_get_5 rfl (lv_at hl 0 rfl) ?_
      refine va_get (D := D) (ci := 0) (v := .ref av) (C := "HeadDesk$Head") (T := F_Head) (N := 2) hx hb hts a_Head hown hX.1 hP 0 rfl rfl 0 (by decide) (hts _ m_34) (fun _ h9 => h9) rfl d_Head_get_6 ?_
      refine va_alen (v := 18) hx hb hX.1 hP 1 tv rfl htv rfl d_Head_get_9 ?_
      refine lv_icmp_ge (tgt := 22) hx hb d_Head_get_10 (by decide) (fun c_10 => ?_) (fun c_10 => ?_)
      · skip
        have c_10 : (18 ≤ x) := c_10
        refine lv_iconst (v := (-1)) hx hb d_Head_get_22 (by decide) ?_
        exact hret H locs q (-1) _ _ hP hD hS ⟨(by first | (simp only [hGet, if_neg c_1, if_pos c_10, fStop, if_true, if_false, Bool.false_eq_true, ↓reduceIte]; done) | (simp only [hGet, if_neg c_1, if_pos c_10, fStop, if_true, if_false, Bool.false_eq_true, ↓reduceIte]; with_reducible rfl)), rfl⟩ d_Head_get_23
      · skip
        have c_10 : ¬ (18 ≤ x) := c_10
        refine lv_aload_n hx hb d_Head_get_13 rfl (lv_at hl 0 rfl) ?_
        refine va_get (D := D) (ci := 0) (v := .ref av) (C := "HeadDesk$Head") (T := F_Head) (N := 2) hx hb hts a_Head hown hX.1 hP 0 rfl rfl 0 (by decide) (hts _ m_34) (fun _ h9 => h9) rfl d_Head_get_14 ?_
        refine lv_iload_n hx hb d_Head_get_17 rfl (lv_at hl 1 rfl) ?_
        refine va_iald hx hb hX.1 hP 1 tv rfl htv (hix18 c_1 c_10) d_Head_get_18 ?_
        refine lv_goto (tgt := 23) hx hb d_Head_get_19 (by decide) ?_
        exact hret H locs q (q.1 x.toNatClampNeg) _ _ hP hD hS ⟨(by first | (simp only [hGet, if_neg c_1, if_neg c_10, fStop, if_true, if_false, Bool.false_eq_true, ↓reduceIte]; done) | (simp only [hGet, if_neg c_1, if_neg c_10, fStop, if_true, if_false, Bool.false_eq_true, ↓reduceIte]; with_reducible rfl)), rfl⟩ d_Head_get_23
  rw [hH, hlo] at goal
  exact goal
set_option maxHeartbeats 4000000 in
set_option maxRecDepth 100000 in
theorem c_Head_setRange (htv : tys[tv]? = some (cv, FieldType.int)) (htr : tys[tr]? = some (cr, FieldType.int)) (q : (Nat → Int32) × (Nat → Int32)) (x : Int32) (z : Int32) (z2 : Int32) : hx_Mv l D tys adK adV tF (hdW ah av ar cv cr) y_Head_setRange w_Head_setRange (rmD 1) [.ref ah, .int x, .int z, .int z2] q (hRng q.1 x z z2, q.2) := by
  refine hx_Mv.of (cc := b_Head_setRange) (maxL := 4) (by decide) rfl (Nat.le_of_ble_eq_true rfl) ?_
  intro p e s m below meth c A Q ls hI hX hA hP hD hS hl hret
  obtain ⟨hx, hb, hml, hown, hts⟩ := id hI
  have hts : ∀ w ∈ aw, w.before ([.ref ah, .int x, .int z, .int z2] : List Value).toArray s = true := fun w h => hts w (List.mem_cons_of_mem _ h)
  have hown : s.vm.findClass "HeadDesk$Head" = some m.cls := hown
  have hI : hx_In p s m ([.ref ah, .int x, .int z, .int z2] : List Value).toArray c b_Head_setRange 4 "HeadDesk$Head" aw := ⟨hx, hb, hml, hown, hts⟩
  have hP : va_P D vwCl (hdW ah av ar cv cr q) s.heap := hP
  obtain ⟨H, hH⟩ : ∃ H, H = s.heap := ⟨_, rfl⟩
  obtain ⟨locs, hlo⟩ : ∃ locs : List Loc, locs = [] := ⟨_, rfl⟩
  have hS : va_S A s.heap H locs := by rw [hH, hlo]; exact hS
  have hP : va_P D vwCl (hdW ah av ar cv cr q) H := by rw [hH]; exact hP
  have hl : lv_has ls 4 [(0, .ref ah), (1, .int x), (2, .int z), (3, .int z2)] := hl
  have goal : W p l e (rmD 1) s m ([.ref ah, .int x, .int z, .int z2] : List Value).toArray below meth c H locs 0 0 Q (F0 m 0 ls []) := by
    refine lv_aload_n hx hb d_Head_setRange_0 rfl (lv_at hl 0 rfl) ?_
    refine va_get (D := D) (ci := 0) (v := .ref av) (C := "HeadDesk$Head") (T := F_Head) (N := 2) hx hb hts a_Head hown hX.1 hP 0 rfl rfl 0 (by decide) (hts _ m_34) (fun _ h9 => h9) rfl d_Head_setRange_1 ?_
    refine lv_iconst (v := 3) hx hb d_Head_setRange_4 (by decide) ?_
    refine lv_iload_n hx hb d_Head_setRange_5 rfl (lv_at hl 1 rfl) ?_
    refine va_iast hx hb hX.1 hP hD hS 1 tv rfl htv (vp_in_iff.mpr (by decide)) d_Head_setRange_6 (fun H locs hP hD hS => ?_)
    have hP : va_P D vwCl (hdW ah av ar cv cr (upd q.1 3 x, q.2)) H := hP
    have hD : va_D A (hdW ah av ar cv cr (upd q.1 3 x, q.2)) := hD
    refine lv_aload_n hx hb d_Head_setRange_7 rfl (lv_at hl 0 rfl) ?_
    refine va_get (D := D) (ci := 0) (v := .ref av) (C := "HeadDesk$Head") (T := F_Head) (N := 2) hx hb hts a_Head hown hX.1 hP 0 rfl rfl 0 (by decide) (hts _ m_34) (fun _ h9 => h9) rfl d_Head_setRange_8 ?_
    refine lv_iconst (v := 4) hx hb d_Head_setRange_11 (by decide) ?_
    refine lv_iload_n hx hb d_Head_setRange_12 rfl (lv_at hl 2 rfl) ?_
    refine va_iast hx hb hX.1 hP hD hS 1 tv rfl htv (vp_in_iff.mpr (by decide)) d_Head_setRange_13 (fun H locs hP hD hS => ?_)
    have hP : va_P D vwCl (hdW ah av ar cv cr (upd (upd q.1 3 x) 4 z, (upd q.1 3 x, q.2).2)) H := hP
    have hD : va_D A (hdW ah av ar cv cr (upd (upd q.1 3 x) 4 z, (upd q.1 3 x, q.2).2)) := hD
    refine lv_aload_n hx hb d_Head_setRange_14 rfl (lv_at hl 0 rfl) ?_
    refine va_get (D := D) (ci := 0) (v := .ref av) (C := "HeadDesk$Head") (T := F_Head) (N := 2) hx hb hts a_Head hown hX.1 hP 0 rfl rfl 0 (by decide) (hts _ m_34) (fun _ h9 => h9) rfl d_Head_setRange_15 ?_
    refine lv_iconst (v := 5) hx hb d_Head_setRange_18 (by decide) ?_
    refine lv_iload_n hx hb d_Head_setRange_19 rfl (lv_at hl 3 rfl) ?_
    refine va_iast hx hb hX.1 hP hD hS 1 tv rfl htv (vp_in_iff.mpr (by decide)) d_Head_setRange_20 (fun H locs hP hD hS => ?_)
    have hP : va_P D vwCl (hdW ah av ar cv cr (upd (upd (upd q.1 3 x) 4 z) 5 z2, (upd (upd q.1 3 x) 4 z, (upd q.1 3 x, q.2).2).2)) H := hP
    have hD : va_D A (hdW ah av ar cv cr (upd (upd (upd q.1 3 x) 4 z) 5 z2, (upd (upd q.1 3 x) 4 z, (upd q.1 3 x, q.2).2).2)) := hD
    exact hret H locs (upd (upd (upd q.1 3 x) 4 z) 5 z2, (upd (upd q.1 3 x) 4 z, (upd q.1 3 x, q.2).2).2) _ _ hP hD hS (by first | (simp only [hRng, fStop, if_true, if_false, Bool.false_eq_true, ↓reduceIte]; done) | (simp only [hRng, fStop, if_true, if_false, Bool.false_eq_true, ↓reduceIte]; with_reducible rfl)) d_Head_setRange_21
  rw [hH, hlo] at goal
  exact goal
set_option maxHeartbeats 4000000 in
set_option maxRecDepth 100000 in
theorem c_Head_addKey (htv : tys[tv]? = some (cv, FieldType.int)) (htr : tys[tr]? = some (cr, FieldType.int)) (q : (Nat → Int32) × (Nat → Int32)) (x : Int32) : hx_Mv l D tys adK adV tF (hdW ah av ar cv cr) y_Head_addKey w_Head_addKey (rmD 1) [.ref ah, .int x] q (hKey q.1 x, q.2) := by
  refine hx_Mv.of (cc := b_Head_addKey) (maxL := 2) (by decide) rfl (Nat.le_of_ble_eq_true rfl) ?_
  intro p e s m below meth c A Q ls hI hX hA hP hD hS hl hret
  obtain ⟨hx, hb, hml, hown, hts⟩ := id hI
  have hts : ∀ w ∈ aw, w.before ([.ref ah, .int x] : List Value).toArray s = true := fun w h => hts w (List.mem_cons_of_mem _ h)
  have hown : s.vm.findClass "HeadDesk$Head" = some m.cls := hown
  have hI : hx_In p s m ([.ref ah, .int x] : List Value).toArray c b_Head_addKey 2 "HeadDesk$Head" aw := ⟨hx, hb, hml, hown, hts⟩
  have hP : va_P D vwCl (hdW ah av ar cv cr q) s.heap := hP
  obtain ⟨H, hH⟩ : ∃ H, H = s.heap := ⟨_, rfl⟩
  obtain ⟨locs, hlo⟩ : ∃ locs : List Loc, locs = [] := ⟨_, rfl⟩
  have hS : va_S A s.heap H locs := by rw [hH, hlo]; exact hS
  have hP : va_P D vwCl (hdW ah av ar cv cr q) H := by rw [hH]; exact hP
  have hl : lv_has ls 2 [(0, .ref ah), (1, .int x)] := hl
  have goal : W p l e (rmD 1) s m ([.ref ah, .int x] : List Value).toArray below meth c H locs 0 0 Q (F0 m 0 ls []) := by
    refine lv_aload_n hx hb d_Head_addKey_0 rfl (lv_at hl 0 rfl) ?_
    refine va_get (D := D) (ci := 0) (v := .ref av) (C := "HeadDesk$Head") (T := F_Head) (N := 2) hx hb hts a_Head hown hX.1 hP 0 rfl rfl 0 (by decide) (hts _ m_34) (fun _ h9 => h9) rfl d_Head_addKey_1 ?_
    refine lv_bipush (v := 9) hx hb d_Head_addKey_4 (by decide) ?_
    refine lv_dup2_11 hx hb d_Head_addKey_6 rfl rfl ?_
    refine va_iald hx hb hX.1 hP 1 tv rfl htv (vp_in_iff.mpr (by decide)) d_Head_addKey_7 ?_
    refine hx_top (v := q.1 9) (by first | rfl | (rw [nI_clamp (by omega)])) ?_
    refine lv_iconst (v := 1) hx hb d_Head_addKey_8 (by decide) ?_
    refine lv_iload_n hx hb d_Head_addKey_9 rfl (lv_at hl 1 rfl) ?_
    refine lv_bipush (v := 97) hx hb d_Head_addKey_10 (by decide) ?_
    refine lv_isub hx hb d_Head_addKey_12 ?_
    refine lv_ishl hx hb d_Head_addKey_13 ?_
    refine lv_ior hx hb d_Head_addKey_14 ?_
    refine va_iast hx hb hX.1 hP hD hS 1 tv rfl htv (vp_in_iff.mpr (by decide)) d_Head_addKey_15 (fun H locs hP hD hS => ?_)
    have hP : va_P D vwCl (hdW ah av ar cv cr (upd q.1 9 ((q.1 9) ||| (1 <<< ((x - 97) &&& 31))), q.2)) H := hP
    have hD : va_D A (hdW ah av ar cv cr (upd q.1 9 ((q.1 9) ||| (1 <<< ((x - 97) &&& 31))), q.2)) := hD
    exact hret H locs (upd q.1 9 ((q.1 9) ||| (1 <<< ((x - 97) &&& 31))), q.2) _ _ hP hD hS (by first | (simp only [hKey, fStop, if_true, if_false, Bool.false_eq_true, ↓reduceIte]; done) | (simp only [hKey, fStop, if_true, if_false, Bool.false_eq_true, ↓reduceIte]; with_reducible rfl)) d_Head_addKey_16
  rw [hH, hlo] at goal
  exact goal
set_option maxHeartbeats 4000000 in
set_option maxRecDepth 100000 in
theorem c_Head_hasVersion (htv : tys[tv]? = some (cv, FieldType.int)) (htr : tys[tr]? = some (cr, FieldType.int)) (q : (Nat → Int32) × (Nat → Int32)) (x : Int32) : hx_Mz l D tys adK adV tF (hdW ah av ar cv cr) y_Head_hasVersion w_Head_hasVersion (rmD 1) [.ref ah, .int x] q (hHas q.1 q.2 x) q := by
  refine hx_Mz.of (cc := b_Head_hasVersion) (maxL := 3) (by decide) rfl (Nat.le_of_ble_eq_true rfl) ?_
  intro p e s m below meth c A Q ls hI hX hA hP hD hS hl hret
  obtain ⟨hx, hb, hml, hown, hts⟩ := id hI
  have hts : ∀ w ∈ aw, w.before ([.ref ah, .int x] : List Value).toArray s = true := fun w h => hts w (List.mem_cons_of_mem _ h)
  have hown : s.vm.findClass "HeadDesk$Head" = some m.cls := hown
  have hI : hx_In p s m ([.ref ah, .int x] : List Value).toArray c b_Head_hasVersion 3 "HeadDesk$Head" aw := ⟨hx, hb, hml, hown, hts⟩
  have hP : va_P D vwCl (hdW ah av ar cv cr q) s.heap := hP
  obtain ⟨H, hH⟩ : ∃ H, H = s.heap := ⟨_, rfl⟩
  obtain ⟨locs, hlo⟩ : ∃ locs : List Loc, locs = [] := ⟨_, rfl⟩
  have hS : va_S A s.heap H locs := by rw [hH, hlo]; exact hS
  have hP : va_P D vwCl (hdW ah av ar cv cr q) H := by rw [hH]; exact hP
  have hl : lv_has ls 3 [(0, .ref ah), (1, .int x)] := hl
  have goal : W p l e (rmD 1) s m ([.ref ah, .int x] : List Value).toArray below meth c H locs 0 0 Q (F0 m 0 ls []) := by
    refine lv_iconst (v := 0) hx hb d_Head_hasVersion_0 (by decide) ?_
    refine lv_istore_n (lv' := [(2, .int 0), (0, .ref ah), (1, .int x)]) hx hb d_Head_hasVersion_1 rfl hl (by decide) rfl (fun ls hl => ?_)
    have loop2 : ∀ (k : Nat) (j : Nat) (H : Heap) (locs : List Loc) (ls : Array Slot), j + k = 8 → hHas q.1 q.2 x = hasL q.1 q.2 x k j → va_P D vwCl (hdW ah av ar cv cr q) H → va_D A (hdW ah av ar cv cr q) → va_S A s.heap H locs → lv_has ls 3 [(2, .int (nI j)), (0, .ref ah), (1, .int x)] → W p l e (rmD 1) s m ([.ref ah, .int x] : List Value).toArray below meth c H locs 0 0 Q (F0 m 2 ls []) := by
      intro k
      induction k with
      | zero =>
        intro j H locs ls hj hF hP hD hS hl
        refine lv_iload_n hx hb d_Head_hasVersion_2 rfl (lv_at hl 0 rfl) ?_
        refine lv_aload_n hx hb d_Head_hasVersion_3 rfl (lv_at hl 1 rfl) ?_
        refine va_get (D := D) (ci := 0) (v := .ref ar) (C := "HeadDesk$Head") (T := F_Head) (N := 2) hx hb hts a_Head hown hX.1 hP 0 rfl rfl 1 (by decide) (hts _ m_35) (fun _ h9 => h9) rfl d_Head_hasVersion_4 ?_
        refine va_alen (v := 8) hx hb hX.1 hP 2 tr rfl htr rfl d_Head_hasVersion_7 ?_
        refine lv_icmp_ge (tgt := 40) hx hb d_Head_hasVersion_8 (by decide) (fun c_8 => ?_) (fun c_8 => ?_)
        · skip
          have c_8 : (8 ≤ nI j) := c_8
          refine lv_iconst (v := 0) hx hb d_Head_hasVersion_40 (by decide) ?_
          exact hret H locs q false _ _ hP hD hS ⟨(by first | (rw [hF]; ((try simp only [hasL]) <;> simp only [hasL, if_pos c_8, fStop, if_true, if_false, Bool.false_eq_true, ↓reduceIte]); done) | (rw [hF]; ((try simp only [hasL]) <;> simp only [hasL, if_pos c_8, fStop, if_true, if_false, Bool.false_eq_true, ↓reduceIte]); with_reducible rfl)), rfl⟩ d_Head_hasVersion_41
        · skip
          exact absurd (nI_gyes (N := 8) rfl (by omega) (by omega)) c_8
      | succ k ih =>
        intro j H locs ls hj hF hP hD hS hl
        refine lv_iload_n hx hb d_Head_hasVersion_2 rfl (lv_at hl 0 rfl) ?_
        refine lv_aload_n hx hb d_Head_hasVersion_3 rfl (lv_at hl 1 rfl) ?_
        refine va_get (D := D) (ci := 0) (v := .ref ar) (C := "HeadDesk$Head") (T := F_Head) (N := 2) hx hb hts a_Head hown hX.1 hP 0 rfl rfl 1 (by decide) (hts _ m_35) (fun _ h9 => h9) rfl d_Head_hasVersion_4 ?_
        refine va_alen (v := 8) hx hb hX.1 hP 2 tr rfl htr rfl d_Head_hasVersion_7 ?_
        refine lv_icmp_ge (tgt := 40) hx hb d_Head_hasVersion_8 (by decide) (fun c_8 => ?_) (fun c_8 => ?_)
        · skip
          exact absurd c_8 (nI_gno (N := 8) rfl (by omega) (by omega))
        · skip
          have c_8 : ¬ (8 ≤ nI j) := c_8
          refine lv_iload_n hx hb d_Head_hasVersion_11 rfl (lv_at hl 0 rfl) ?_
          refine lv_aload_n hx hb d_Head_hasVersion_12 rfl (lv_at hl 1 rfl) ?_
          refine va_get (D := D) (ci := 0) (v := .ref av) (C := "HeadDesk$Head") (T := F_Head) (N := 2) hx hb hts a_Head hown hX.1 hP 0 rfl rfl 0 (by decide) (hts _ m_34) (fun _ h9 => h9) rfl d_Head_hasVersion_13 ?_
          refine lv_bipush (v := 7) hx hb d_Head_hasVersion_16 (by decide) ?_
          refine va_iald hx hb hX.1 hP 1 tv rfl htv (vp_in_iff.mpr (by decide)) d_Head_hasVersion_18 ?_
          refine hx_top (v := q.1 7) (by first | rfl | (rw [nI_clamp (by omega)])) ?_
          refine lv_icmp_ge (tgt := 40) hx hb d_Head_hasVersion_19 (by decide) (fun c_19 => ?_) (fun c_19 => ?_)
          · skip
            have c_19 : (q.1 7 ≤ nI j) := c_19
            refine lv_iconst (v := 0) hx hb d_Head_hasVersion_40 (by decide) ?_
            exact hret H locs q false _ _ hP hD hS ⟨(by first | (rw [hF]; ((try simp only [hasL]) <;> simp only [hasL, if_neg c_8, if_pos c_19, fStop, if_true, if_false, Bool.false_eq_true, ↓reduceIte]); done) | (rw [hF]; ((try simp only [hasL]) <;> simp only [hasL, if_neg c_8, if_pos c_19, fStop, if_true, if_false, Bool.false_eq_true, ↓reduceIte]); with_reducible rfl)), rfl⟩ d_Head_hasVersion_41
          · skip
            have c_19 : ¬ (q.1 7 ≤ nI j) := c_19
            refine lv_aload_n hx hb d_Head_hasVersion_22 rfl (lv_at hl 1 rfl) ?_
            refine va_get (D := D) (ci := 0) (v := .ref ar) (C := "HeadDesk$Head") (T := F_Head) (N := 2) hx hb hts a_Head hown hX.1 hP 0 rfl rfl 1 (by decide) (hts _ m_35) (fun _ h9 => h9) rfl d_Head_hasVersion_23 ?_
            refine lv_iload_n hx hb d_Head_hasVersion_26 rfl (lv_at hl 0 rfl) ?_
            refine va_iald hx hb hX.1 hP 2 tr rfl htr (vp_in_nI (by omega) (by decide)) d_Head_hasVersion_27 ?_
            refine hx_top (v := q.2 j) (by first | rfl | (rw [nI_clamp (by omega)])) ?_
            refine lv_iload_n hx hb d_Head_hasVersion_28 rfl (lv_at hl 2 rfl) ?_
            refine lv_icmp_ne (tgt := 34) hx hb d_Head_hasVersion_29 (by decide) (fun c_29 => ?_) (fun c_29 => ?_)
            · skip
              have c_29 : ¬ (q.2 j = x) := c_29
              refine lv_iinc (v := nI (j + 1)) (lv' := [(2, .int (nI (j + 1))), (0, .ref ah), (1, .int x)]) hx hb d_Head_hasVersion_34 hl (k := 0) rfl (by rw [nI_succ]; rfl) (by decide) rfl (fun ls hl => ?_)
              refine lv_goto (tgt := 2) hx hb d_Head_hasVersion_37 (by decide) ?_
              exact ih (j + 1)  H locs ls (by omega)  (by first | (rw [hF]; ((try simp only [hasL]) <;> simp only [hasL, if_neg c_8, if_neg c_19, if_neg c_29, fStop, if_true, if_false, Bool.false_eq_true, ↓reduceIte]); done) | (rw [hF]; ((try simp only [hasL]) <;> simp only [hasL, if_neg c_8, if_neg c_19, if_neg c_29, fStop, if_true, if_false, Bool.false_eq_true, ↓reduceIte]); with_reducible rfl)) hP hD hS (lv_sub hl [0, 1, 2] rfl)
            · skip
              have c_29 : (q.2 j = x) := c_29
              refine lv_iconst (v := 1) hx hb d_Head_hasVersion_32 (by decide) ?_
              exact hret H locs q true _ _ hP hD hS ⟨(by first | (rw [hF]; ((try simp only [hasL]) <;> simp only [hasL, if_neg c_8, if_neg c_19, if_pos c_29, fStop, if_true, if_false, Bool.false_eq_true, ↓reduceIte]); done) | (rw [hF]; ((try simp only [hasL]) <;> simp only [hasL, if_neg c_8, if_neg c_19, if_pos c_29, fStop, if_true, if_false, Bool.false_eq_true, ↓reduceIte]); with_reducible rfl)), rfl⟩ d_Head_hasVersion_33
    exact loop2 8 0  H locs ls (by rfl) rfl hP hD hS (lv_sub hl [0, 1, 2] rfl)
  rw [hH, hlo] at goal
  exact goal
set_option maxHeartbeats 4000000 in
set_option maxRecDepth 100000 in
theorem c_Head_coversVersion (htv : tys[tv]? = some (cv, FieldType.int)) (htr : tys[tr]? = some (cr, FieldType.int)) (q : (Nat → Int32) × (Nat → Int32)) (x : Int32) : hx_Mz l D tys adK adV tF (hdW ah av ar cv cr) y_Head_coversVersion w_Head_coversVersion (rmD 2) [.ref ah, .int x] q (hCov q.1 q.2 x) q := by
  refine hx_Mz.of (cc := b_Head_coversVersion) (maxL := 2) (by decide) rfl (Nat.le_of_ble_eq_true rfl) ?_
  intro p e s m below meth c A Q ls hI hX hA hP hD hS hl hret
  obtain ⟨hx, hb, hml, hown, hts⟩ := id hI
  have hts : ∀ w ∈ aw, w.before ([.ref ah, .int x] : List Value).toArray s = true := fun w h => hts w (List.mem_cons_of_mem _ h)
  have hown : s.vm.findClass "HeadDesk$Head" = some m.cls := hown
  have hI : hx_In p s m ([.ref ah, .int x] : List Value).toArray c b_Head_coversVersion 2 "HeadDesk$Head" aw := ⟨hx, hb, hml, hown, hts⟩
  have hP : va_P D vwCl (hdW ah av ar cv cr q) s.heap := hP
  obtain ⟨H, hH⟩ : ∃ H, H = s.heap := ⟨_, rfl⟩
  obtain ⟨locs, hlo⟩ : ∃ locs : List Loc, locs = [] := ⟨_, rfl⟩
  have hS : va_S A s.heap H locs := by rw [hH, hlo]; exact hS
  have hP : va_P D vwCl (hdW ah av ar cv cr q) H := by rw [hH]; exact hP
  have hl : lv_has ls 2 [(0, .ref ah), (1, .int x)] := hl
  have goal : W p l e (rmD 2) s m ([.ref ah, .int x] : List Value).toArray below meth c H locs 0 0 Q (F0 m 0 ls []) := by
    refine lv_aload_n hx hb d_Head_coversVersion_0 rfl (lv_at hl 0 rfl) ?_
    refine va_get (D := D) (ci := 0) (v := .ref av) (C := "HeadDesk$Head") (T := F_Head) (N := 2) hx hb hts a_Head hown hX.1 hP 0 rfl rfl 0 (by decide) (hts _ m_34) (fun _ h9 => h9) rfl d_Head_coversVersion_1 ?_
    refine lv_bipush (v := 6) hx hb d_Head_coversVersion_4 (by decide) ?_
    refine va_iald hx hb hX.1 hP 1 tv rfl htv (vp_in_iff.mpr (by decide)) d_Head_coversVersion_6 ?_
    refine hx_top (v := q.1 6) (by first | rfl | (rw [nI_clamp (by omega)])) ?_
    refine lv_iconst (v := 1) hx hb d_Head_coversVersion_7 (by decide) ?_
    refine lv_icmp_eq (tgt := 19) hx hb d_Head_coversVersion_8 (by decide) (fun c_8 => ?_) (fun c_8 => ?_)
    · skip
      have c_8 : (q.1 6 = 1) := c_8
      refine lv_iconst (v := 1) hx hb d_Head_coversVersion_19 (by decide) ?_
      refine lv_goto (tgt := 24) hx hb d_Head_coversVersion_20 (by decide) ?_
      exact hret H locs q true _ _ hP hD hS ⟨(by first | (simp only [hCov, if_pos c_8, fStop, if_true, if_false, Bool.false_eq_true, ↓reduceIte]; done) | (simp only [hCov, if_pos c_8, fStop, if_true, if_false, Bool.false_eq_true, ↓reduceIte]; with_reducible rfl)), rfl⟩ d_Head_coversVersion_24
    · skip
      have c_8 : ¬ (q.1 6 = 1) := c_8
      refine lv_aload_n hx hb d_Head_coversVersion_11 rfl (lv_at hl 0 rfl) ?_
      refine lv_iload_n hx hb d_Head_coversVersion_12 rfl (lv_at hl 1 rfl) ?_
      refine hx_Vz (wr := []) (As := [.int x]) (rest := []) hI (c_Head_hasVersion htv htr q x) (cw_V (C := "HeadDesk$Head") 1 hts m_36 m_38 m_39 m_40 m_37 (by decide +kernel) ⟨by decide, by decide⟩) hX hA hP hD hS [0, 1, 2] [] rfl rfl (by decide) (by decide) (by decide) (va_recv hX.1 hP (ci := 0) (q0 := 0) rfl rfl) rfl hl.1 rfl (Nat.le_of_ble_eq_true rfl) d_Head_coversVersion_13 ⟨Nat.zero_le _, Nat.zero_le _⟩ (fun H locs hP hD hS => ?_)
      have hP : va_P D vwCl (hdW ah av ar cv cr q) H := hP
      have hD : va_D A (hdW ah av ar cv cr q) := hD
      refine lv_if_eq (tgt := 23) hx hb d_Head_coversVersion_16 (by decide) (fun c_16 => ?_) (fun c_16 => ?_)
      · skip
        have c_16 : (hHas q.1 q.2 x) = false := bI_0 c_16
        refine lv_iconst (v := 0) hx hb d_Head_coversVersion_23 (by decide) ?_
        exact hret H locs q false _ _ hP hD hS ⟨(by first | (simp only [hCov, if_neg c_8, c_16, fStop, if_true, if_false, Bool.false_eq_true, ↓reduceIte]; done) | (simp only [hCov, if_neg c_8, c_16, fStop, if_true, if_false, Bool.false_eq_true, ↓reduceIte]; with_reducible rfl)), rfl⟩ d_Head_coversVersion_24
      · skip
        have c_16 : (hHas q.1 q.2 x) = true := bI_1 c_16
        refine lv_iconst (v := 1) hx hb d_Head_coversVersion_19 (by decide) ?_
        refine lv_goto (tgt := 24) hx hb d_Head_coversVersion_20 (by decide) ?_
        exact hret H locs q true _ _ hP hD hS ⟨(by first | (simp only [hCov, if_neg c_8, c_16, fStop, if_true, if_false, Bool.false_eq_true, ↓reduceIte]; done) | (simp only [hCov, if_neg c_8, c_16, fStop, if_true, if_false, Bool.false_eq_true, ↓reduceIte]; with_reducible rfl)), rfl⟩ d_Head_coversVersion_24
  rw [hH, hlo] at goal
  exact goal
set_option maxHeartbeats 4000000 in
set_option maxRecDepth 100000 in
theorem c_Head_addVersion (htv : tys[tv]? = some (cv, FieldType.int)) (htr : tys[tr]? = some (cr, FieldType.int)) (q : (Nat → Int32) × (Nat → Int32)) (x : Int32) : hx_Mv l D tys adK adV tF (hdW ah av ar cv cr) y_Head_addVersion w_Head_addVersion (rmD 2) [.ref ah, .int x] q (hAdd q.1 q.2 x) := by
  refine hx_Mv.of (cc := b_Head_addVersion) (maxL := 3) (by decide) rfl (Nat.le_of_ble_eq_true rfl) ?_
  intro p e s m below meth c A Q ls hI hX hA hP hD hS hl hret
  obtain ⟨hx, hb, hml, hown, hts⟩ := id hI
  have hts : ∀ w ∈ aw, w.before ([.ref ah, .int x] : List Value).toArray s = true := fun w h => hts w (List.mem_cons_of_mem _ h)
  have hown : s.vm.findClass "HeadDesk$Head" = some m.cls := hown
  have hI : hx_In p s m ([.ref ah, .int x] : List Value).toArray c b_Head_addVersion 3 "HeadDesk$Head" aw := ⟨hx, hb, hml, hown, hts⟩
  have hP : va_P D vwCl (hdW ah av ar cv cr q) s.heap := hP
  obtain ⟨H, hH⟩ : ∃ H, H = s.heap := ⟨_, rfl⟩
  obtain ⟨locs, hlo⟩ : ∃ locs : List Loc, locs = [] := ⟨_, rfl⟩
  have hS : va_S A s.heap H locs := by rw [hH, hlo]; exact hS
  have hP : va_P D vwCl (hdW ah av ar cv cr q) H := by rw [hH]; exact hP
  have hl : lv_has ls 3 [(0, .ref ah), (1, .int x)] := hl
  have goal : W p l e (rmD 2) s m ([.ref ah, .int x] : List Value).toArray below meth c H locs 0 0 Q (F0 m 0 ls []) := by
    refine lv_aload_n hx hb d_Head_addVersion_0 rfl (lv_at hl 0 rfl) ?_
    refine va_get (D := D) (ci := 0) (v := .ref av) (C := "HeadDesk$Head") (T := F_Head) (N := 2) hx hb hts a_Head hown hX.1 hP 0 rfl rfl 0 (by decide) (hts _ m_34) (fun _ h9 => h9) rfl d_Head_addVersion_1 ?_
    refine lv_bipush (v := 7) hx hb d_Head_addVersion_4 (by decide) ?_
    refine va_iald hx hb hX.1 hP 1 tv rfl htv (vp_in_iff.mpr (by decide)) d_Head_addVersion_6 ?_
    refine hx_top (v := q.1 7) (by first | rfl | (rw [nI_clamp (by omega)])) ?_
    refine lv_istore_n (lv' := [(2, .int (q.1 7)), (0, .ref ah), (1, .int x)]) hx hb d_Head_addVersion_7 rfl hl (by decide) rfl (fun ls hl => ?_)
    refine lv_aload_n hx hb d_Head_addVersion_8 rfl (lv_at hl 1 rfl) ?_
    refine lv_iload_n hx hb d_Head_addVersion_9 rfl (lv_at hl 2 rfl) ?_
    refine hx_Vz (wr := []) (As := [.int x]) (rest := []) hI (c_Head_hasVersion htv htr q x) (cw_V (C := "HeadDesk$Head") 1 hts m_36 m_38 m_39 m_40 m_37 (by decide +kernel) ⟨by decide, by decide⟩) hX hA hP hD hS [0, 1, 2] [] rfl rfl (by decide) (by decide) (by decide) (va_recv hX.1 hP (ci := 0) (q0 := 0) rfl rfl) rfl hl.1 rfl (Nat.le_of_ble_eq_true rfl) d_Head_addVersion_10 ⟨Nat.zero_le _, Nat.zero_le _⟩ (fun H locs hP hD hS => ?_)
    have hP : va_P D vwCl (hdW ah av ar cv cr q) H := hP
    have hD : va_D A (hdW ah av ar cv cr q) := hD
    refine lv_if_ne (tgt := 46) hx hb d_Head_addVersion_13 (by decide) (fun c_13 => ?_) (fun c_13 => ?_)
    · skip
      have c_13 : (hHas q.1 q.2 x) = true := bI_1 c_13
      exact hret H locs q _ _ hP hD hS (by first | (simp only [hAdd, c_13, fStop, if_true, if_false, Bool.false_eq_true, ↓reduceIte]; done) | (simp only [hAdd, c_13, fStop, if_true, if_false, Bool.false_eq_true, ↓reduceIte]; with_reducible rfl)) d_Head_addVersion_46
    · skip
      have c_13 : (hHas q.1 q.2 x) = false := bI_0 c_13
      refine lv_iload_n hx hb d_Head_addVersion_16 rfl (lv_at hl 0 rfl) ?_
      refine lv_if_lt (tgt := 46) hx hb d_Head_addVersion_17 (by decide) (fun c_17 => ?_) (fun c_17 => ?_)
      · skip
        have c_17 : (q.1 7 < 0) := c_17
        exact hret H locs q _ _ hP hD hS (by first | (simp only [hAdd, c_13, if_pos c_17, fStop, if_true, if_false, Bool.false_eq_true, ↓reduceIte]; done) | (simp only [hAdd, c_13, if_pos c_17, fStop, if_true, if_false, Bool.false_eq_true, ↓reduceIte]; with_reducible rfl)) d_Head_addVersion_46
      · skip
        have c_17 : ¬ (q.1 7 < 0) := c_17
        refine lv_iload_n hx hb d_Head_addVersion_20 rfl (lv_at hl 0 rfl) ?_
        refine lv_aload_n hx hb d_Head_addVersion_21 rfl (lv_at hl 1 rfl) ?_
        refine va_get (D := D) (ci := 0) (v := .ref ar) (C := "HeadDesk$Head") (T := F_Head) (N := 2) hx hb hts a_Head hown hX.1 hP 0 rfl rfl 1 (by decide) (hts _ m_35) (fun _ h9 => h9) rfl d_Head_addVersion_22 ?_
        refine va_alen (v := 8) hx hb hX.1 hP 2 tr rfl htr rfl d_Head_addVersion_25 ?_
        refine lv_icmp_ge (tgt := 46) hx hb d_Head_addVersion_26 (by decide) (fun c_26 => ?_) (fun c_26 => ?_)
        · skip
          have c_26 : (8 ≤ q.1 7) := c_26
          exact hret H locs q _ _ hP hD hS (by first | (simp only [hAdd, c_13, if_neg c_17, if_pos c_26, fStop, if_true, if_false, Bool.false_eq_true, ↓reduceIte]; done) | (simp only [hAdd, c_13, if_neg c_17, if_pos c_26, fStop, if_true, if_false, Bool.false_eq_true, ↓reduceIte]; with_reducible rfl)) d_Head_addVersion_46
        · skip
          have c_26 : ¬ (8 ≤ q.1 7) := c_26
          refine lv_aload_n hx hb d_Head_addVersion_29 rfl (lv_at hl 1 rfl) ?_
          refine va_get (D := D) (ci := 0) (v := .ref ar) (C := "HeadDesk$Head") (T := F_Head) (N := 2) hx hb hts a_Head hown hX.1 hP 0 rfl rfl 1 (by decide) (hts _ m_35) (fun _ h9 => h9) rfl d_Head_addVersion_30 ?_
          refine lv_iload_n hx hb d_Head_addVersion_33 rfl (lv_at hl 0 rfl) ?_
          refine lv_iload_n hx hb d_Head_addVersion_34 rfl (lv_at hl 2 rfl) ?_
          refine va_iast hx hb hX.1 hP hD hS 2 tr rfl htr (hix8 c_17 c_26) d_Head_addVersion_35 (fun H locs hP hD hS => ?_)
          have hP : va_P D vwCl (hdW ah av ar cv cr (q.1, upd q.2 (q.1 7).toNatClampNeg x)) H := hP
          have hD : va_D A (hdW ah av ar cv cr (q.1, upd q.2 (q.1 7).toNatClampNeg x)) := hD
          refine lv_aload_n hx hb d_Head_addVersion_36 rfl (lv_at hl 1 rfl) ?_
          refine va_get (D := D) (ci := 0) (v := .ref av) (C := "HeadDesk$Head") (T := F_Head) (N := 2) hx hb hts a_Head hown hX.1 hP 0 rfl rfl 0 (by decide) (hts _ m_34) (fun _ h9 => h9) rfl d_Head_addVersion_37 ?_
          refine lv_bipush (v := 7) hx hb d_Head_addVersion_40 (by decide) ?_
          refine lv_iload_n hx hb d_Head_addVersion_42 rfl (lv_at hl 0 rfl) ?_
          refine lv_iconst (v := 1) hx hb d_Head_addVersion_43 (by decide) ?_
          refine lv_iadd hx hb d_Head_addVersion_44 ?_
          refine va_iast hx hb hX.1 hP hD hS 1 tv rfl htv (vp_in_iff.mpr (by decide)) d_Head_addVersion_45 (fun H locs hP hD hS => ?_)
          have hP : va_P D vwCl (hdW ah av ar cv cr (upd q.1 7 ((q.1 7) + 1), (q.1, upd q.2 (q.1 7).toNatClampNeg x).2)) H := hP
          have hD : va_D A (hdW ah av ar cv cr (upd q.1 7 ((q.1 7) + 1), (q.1, upd q.2 (q.1 7).toNatClampNeg x).2)) := hD
          exact hret H locs (upd q.1 7 ((q.1 7) + 1), (q.1, upd q.2 (q.1 7).toNatClampNeg x).2) _ _ hP hD hS (by first | (simp only [hAdd, c_13, if_neg c_17, if_neg c_26, fStop, if_true, if_false, Bool.false_eq_true, ↓reduceIte]; done) | (simp only [hAdd, c_13, if_neg c_17, if_neg c_26, fStop, if_true, if_false, Bool.false_eq_true, ↓reduceIte]; with_reducible rfl)) d_Head_addVersion_46
  rw [hH, hlo] at goal
  exact goal
set_option maxHeartbeats 4000000 in
set_option maxRecDepth 100000 in
theorem c_Head_clear (htv : tys[tv]? = some (cv, FieldType.int)) (htr : tys[tr]? = some (cr, FieldType.int)) (q : (Nat → Int32) × (Nat → Int32))  : hx_Mv l D tys adK adV tF (hdW ah av ar cv cr) y_Head_clear w_Head_clear (rmD 1) [.ref ah] q (va_cpy at0 q.1 0 0 18, q.2) := by
  refine hx_Mv.of (cc := b_Head_clear) (maxL := 1) (by decide) rfl (Nat.le_of_ble_eq_true rfl) ?_
  intro p e s m below meth c A Q ls hI hX hA hP hD hS hl hret
  obtain ⟨hx, hb, hml, hown, hts⟩ := id hI
  have hts : ∀ w ∈ aw, w.before ([.ref ah] : List Value).toArray s = true := fun w h => hts w (List.mem_cons_of_mem _ h)
  have hown : s.vm.findClass "HeadDesk$Head" = some m.cls := hown
  have hI : hx_In p s m ([.ref ah] : List Value).toArray c b_Head_clear 1 "HeadDesk$Head" aw := ⟨hx, hb, hml, hown, hts⟩
  have hP : va_P D vwCl (hdW ah av ar cv cr q) s.heap := hP
  obtain ⟨H, hH⟩ : ∃ H, H = s.heap := ⟨_, rfl⟩
  obtain ⟨locs, hlo⟩ : ∃ locs : List Loc, locs = [] := ⟨_, rfl⟩
  have hS : va_S A s.heap H locs := by rw [hH, hlo]; exact hS
  have hP : va_P D vwCl (hdW ah av ar cv cr q) H := by rw [hH]; exact hP
  have hl : lv_has ls 1 [(0, .ref ah)] := hl
  have goal : W p l e (rmD 1) s m ([.ref ah] : List Value).toArray below meth c H locs 0 0 Q (F0 m 0 ls []) := by
    refine va_gets hx hb hX.2.2.1 hS hown (hts _ m_41) (fun _ h9 => h9) d_Head_clear_0 ?_
    refine lv_iconst (v := 0) hx hb d_Head_clear_3 (by decide) ?_
    refine lv_aload_n hx hb d_Head_clear_4 rfl (lv_at hl 0 rfl) ?_
    refine va_get (D := D) (ci := 0) (v := .ref av) (C := "HeadDesk$Head") (T := F_Head) (N := 2) hx hb hts a_Head hown hX.1 hP 0 rfl rfl 0 (by decide) (hts _ m_34) (fun _ h9 => h9) rfl d_Head_clear_5 ?_
    refine lv_iconst (v := 0) hx hb d_Head_clear_8 (by decide) ?_
    refine va_gets hx hb hX.2.2.1 hS hown (hts _ m_41) (fun _ h9 => h9) d_Head_clear_9 ?_
    refine va_tlen (v := 18) hx hb hX.2.2.2.1 hS rfl d_Head_clear_12 ?_
    refine hx_copy18 (f := at0) hx hb (hml.trans hl.1.symm) hown (hts _ m_42) (hts _ m_43) (hts _ m_44) (hts _ m_45) hX.1 hP hD hS hX.2.2.2.1 1 tv rfl htv (by decide) (Nat.le_of_ble_eq_true rfl) d_Head_clear_13 (fun H locs hP hD hS => ?_)
    have hP : va_P D vwCl (hdW ah av ar cv cr (va_cpy at0 q.1 0 0 18, q.2)) H := hP
    have hD : va_D A (hdW ah av ar cv cr (va_cpy at0 q.1 0 0 18, q.2)) := hD
    exact hret H locs (va_cpy at0 q.1 0 0 18, q.2) _ _ hP hD hS rfl d_Head_clear_16
  rw [hH, hlo] at goal
  exact goal
end
section
variable {l : Launch} {D : va_G} {ad : Nat → Nat} {cd : Nat → ClassId} {adK adV : Nat → Nat} {tF : Nat} {T : TX} {tys : List (ClassId × FieldType)}

set_option maxHeartbeats 4000000 in
set_option maxRecDepth 100000 in
theorem c_Reader_mark (hT : T.2 ≤ 300) (st : RS)  : hx_Mi l D (tyH cd) adK adV tF (rdW ad cd T) y_Reader_mark w_Reader_mark (rmD 2) [.ref (ad 0)] st (fMark T st) st := by
  refine hx_Mi.of (cc := b_Reader_mark) (maxL := 1) rfl (by decide) rfl (Nat.le_of_ble_eq_true rfl) ?_
  intro p e s m below meth c A Q ls hI hX hA hP hD hS hl hret
  obtain ⟨hx, hb, hml, hown, hts⟩ := id hI
  have hts : ∀ w ∈ aw, w.before ([.ref (ad 0)] : List Value).toArray s = true := fun w h => hts w (List.mem_cons_of_mem _ h)
  have hown : s.vm.findClass "HeadDesk$Reader" = some m.cls := hown
  have hI : hx_In p s m ([.ref (ad 0)] : List Value).toArray c b_Reader_mark 1 "HeadDesk$Reader" aw := ⟨hx, hb, hml, hown, hts⟩
  have hP : va_P D vwCl (rdW ad cd T st) s.heap := hP
  obtain ⟨H, hH⟩ : ∃ H, H = s.heap := ⟨_, rfl⟩
  obtain ⟨locs, hlo⟩ : ∃ locs : List Loc, locs = [] := ⟨_, rfl⟩
  have hS : va_S A s.heap H locs := by rw [hH, hlo]; exact hS
  have hP : va_P D vwCl (rdW ad cd T st) H := by rw [hH]; exact hP
  have hl : lv_has ls 1 [(0, .ref (ad 0))] := hl
  have goal : W p l e (rmD 2) s m ([.ref (ad 0)] : List Value).toArray below meth c H locs 0 0 Q (F0 m 0 ls []) := by
    refine lv_aload_n hx hb d_Reader_mark_0 rfl (lv_at hl 0 rfl) ?_
    refine va_get (D := D) (ci := 1) (v := .ref (ad 1)) (C := "HeadDesk$Reader") (T := F_Reader) (N := 11) hx hb hts a_Reader hown hX.1 hP 0 rfl rfl 0 (by decide) (hts _ m_46) (fun _ h9 => h9) rfl d_Reader_mark_1 ?_
    refine lv_aload_n hx hb d_Reader_mark_4 rfl (lv_at hl 0 rfl) ?_
    refine va_get (D := D) (ci := 1) (v := .int (rPl st)) (C := "HeadDesk$Reader") (T := F_Reader) (N := 11) hx hb hts a_Reader hown hX.1 hP 0 rfl rfl 6 (by decide) (hts _ m_47) (fun _ h9 => h9) rfl d_Reader_mark_5 ?_
    refine hx_Vi (wr := [(ad 0, .inr (1, [.ref (ad 1), .ref (ad 3), .ref (ad 4), .ref (ad 5), .int (rNm st), .int (rKd st), .int (rPl st), .int (rSk st), .int (rNb st), .int (rWs st), .int (rWe st)])), (ad 3, .inl (cd 1, 100, .inl (rNs st))), (ad 4, .inl (cd 2, 100, .inl (rNe st))), (ad 5, .inr (0, [.ref (ad 6), .ref (ad 7)])), (ad 6, .inl (cd 3, 18, .inl (rVs st))), (ad 7, .inl (cd 4, 8, .inl (rVr st)))]) (As := [.int (rPl st)]) (rest := []) hI (c_Tape_markAt hT (rPl st)) (cw_V (C := "HeadDesk$Tape") 1 hts m_48 m_50 m_51 m_30 m_49 (by decide +kernel) ⟨by decide, by decide⟩) hX hA hP hD hS [1, 2] [0, 3, 4, 5, 6, 7] rfl rfl (by decide) (by decide) (by decide) (va_recv hX.1 hP (ci := 2) (q0 := 1) rfl rfl) rfl hl.1 rfl (Nat.le_of_ble_eq_true rfl) d_Reader_mark_8 ⟨Nat.zero_le _, Nat.zero_le _⟩ (fun H locs hP hD hS => ?_)
    have hP : va_P D vwCl (rdW ad cd T st) H := hP.sub [0, 6, 7, 1, 2, 3, 4, 5] rfl
    have hD : va_D A (rdW ad cd T st) := hD.sub [0, 6, 7, 1, 2, 3, 4, 5] (by decide) rfl
    exact hret H locs st (mAt T (rPl st)) _ _ hP hD hS ⟨(by first | (simp only [fMark, fStop, if_true, if_false, Bool.false_eq_true, ↓reduceIte]; done) | (simp only [fMark, fStop, if_true, if_false, Bool.false_eq_true, ↓reduceIte]; with_reducible rfl)), rfl⟩ d_Reader_mark_11
  rw [hH, hlo] at goal
  exact goal
set_option maxHeartbeats 4000000 in
set_option maxRecDepth 100000 in
theorem c_Reader_stop (hT : T.2 ≤ 300) (st : RS) (x : Int32) : hx_Mz l D (tyH cd) adK adV tF (rdW ad cd T) y_Reader_stop w_Reader_stop (rmD 1) [.ref (ad 0), .int x] st ((fStop st x).1) ((fStop st x).2) := by
  refine hx_Mz.of (cc := b_Reader_stop) (maxL := 2) (by decide) rfl (Nat.le_of_ble_eq_true rfl) ?_
  intro p e s m below meth c A Q ls hI hX hA hP hD hS hl hret
  obtain ⟨hx, hb, hml, hown, hts⟩ := id hI
  have hts : ∀ w ∈ aw, w.before ([.ref (ad 0), .int x] : List Value).toArray s = true := fun w h => hts w (List.mem_cons_of_mem _ h)
  have hown : s.vm.findClass "HeadDesk$Reader" = some m.cls := hown
  have hI : hx_In p s m ([.ref (ad 0), .int x] : List Value).toArray c b_Reader_stop 2 "HeadDesk$Reader" aw := ⟨hx, hb, hml, hown, hts⟩
  have hP : va_P D vwCl (rdW ad cd T st) s.heap := hP
  obtain ⟨H, hH⟩ : ∃ H, H = s.heap := ⟨_, rfl⟩
  obtain ⟨locs, hlo⟩ : ∃ locs : List Loc, locs = [] := ⟨_, rfl⟩
  have hS : va_S A s.heap H locs := by rw [hH, hlo]; exact hS
  have hP : va_P D vwCl (rdW ad cd T st) H := by rw [hH]; exact hP
  have hl : lv_has ls 2 [(0, .ref (ad 0)), (1, .int x)] := hl
  have goal : W p l e (rmD 1) s m ([.ref (ad 0), .int x] : List Value).toArray below meth c H locs 0 0 Q (F0 m 0 ls []) := by
    refine lv_aload_n hx hb d_Reader_stop_0 rfl (lv_at hl 0 rfl) ?_
    refine lv_iload_n hx hb d_Reader_stop_1 rfl (lv_at hl 1 rfl) ?_
    refine va_put (D := D) (ci := 1) (v := .int x) (ty := .int) (C := "HeadDesk$Reader") (T := F_Reader) (N := 11) hx hb hts a_Reader t_Reader k_Reader n_Reader hown hX.1 hP hD hS 0 rfl rfl 7 (by decide) (hts _ m_52) (fun _ h9 => h9) rfl (by decide +kernel) rfl rfl (Nat.le_of_ble_eq_true rfl) d_Reader_stop_2 (fun H locs hP hD hS => ?_)
    have hP : va_P D vwCl (rdW ad cd T (sSk st x)) H := hP
    have hD : va_D A (rdW ad cd T (sSk st x)) := hD
    refine lv_iconst (v := 0) hx hb d_Reader_stop_5 (by decide) ?_
    exact hret H locs (sSk st x) false _ _ hP hD hS (pr2 (by first | (simp only [fStop, fStop, if_true, if_false, Bool.false_eq_true, ↓reduceIte]; done) | (simp only [fStop, fStop, if_true, if_false, Bool.false_eq_true, ↓reduceIte]; with_reducible rfl))) d_Reader_stop_6
  rw [hH, hlo] at goal
  exact goal
set_option maxHeartbeats 4000000 in
set_option maxRecDepth 100000 in
theorem c_Reader_skip (hT : T.2 ≤ 300) (st : RS) (x : Int32) : hx_Mz l D (tyH cd) adK adV tF (rdW ad cd T) y_Reader_skip w_Reader_skip (rmD 3) [.ref (ad 0), .int x] st ((fSkip T st x).1) ((fSkip T st x).2) := by
  refine hx_Mz.of (cc := b_Reader_skip) (maxL := 2) (by decide) rfl (Nat.le_of_ble_eq_true rfl) ?_
  intro p e s m below meth c A Q ls hI hX hA hP hD hS hl hret
  obtain ⟨hx, hb, hml, hown, hts⟩ := id hI
  have hts : ∀ w ∈ aw, w.before ([.ref (ad 0), .int x] : List Value).toArray s = true := fun w h => hts w (List.mem_cons_of_mem _ h)
  have hown : s.vm.findClass "HeadDesk$Reader" = some m.cls := hown
  have hI : hx_In p s m ([.ref (ad 0), .int x] : List Value).toArray c b_Reader_skip 2 "HeadDesk$Reader" aw := ⟨hx, hb, hml, hown, hts⟩
  have hP : va_P D vwCl (rdW ad cd T st) s.heap := hP
  obtain ⟨H, hH⟩ : ∃ H, H = s.heap := ⟨_, rfl⟩
  obtain ⟨locs, hlo⟩ : ∃ locs : List Loc, locs = [] := ⟨_, rfl⟩
  have hS : va_S A s.heap H locs := by rw [hH, hlo]; exact hS
  have hP : va_P D vwCl (rdW ad cd T st) H := by rw [hH]; exact hP
  have hl : lv_has ls 2 [(0, .ref (ad 0)), (1, .int x)] := hl
  have goal : W p l e (rmD 3) s m ([.ref (ad 0), .int x] : List Value).toArray below meth c H locs 0 0 Q (F0 m 0 ls []) := by
    refine lv_aload_n hx hb d_Reader_skip_0 rfl (lv_at hl 0 rfl) ?_
    refine hx_Vi (wr := []) (As := []) (rest := []) hI (c_Reader_mark hT st ) (cw_V (C := "HeadDesk$Reader") 0 hts m_53 m_55 m_56 m_57 m_54 (by decide +kernel) ⟨by decide, by decide⟩) hX hA hP hD hS [0, 1, 2, 3, 4, 5, 6, 7] [] rfl rfl (by decide) (by decide) (by decide) (va_recv hX.1 hP (ci := 1) (q0 := 0) rfl rfl) rfl hl.1 rfl (Nat.le_of_ble_eq_true rfl) d_Reader_skip_1 ⟨Nat.zero_le _, Nat.zero_le _⟩ (fun H locs hP hD hS => ?_)
    have hP : va_P D vwCl (rdW ad cd T st) H := hP
    have hD : va_D A (rdW ad cd T st) := hD
    refine lv_iload_n hx hb d_Reader_skip_4 rfl (lv_at hl 1 rfl) ?_
    refine lv_icmp_eq (tgt := 10) hx hb d_Reader_skip_5 (by decide) (fun c_5 => ?_) (fun c_5 => ?_)
    · skip
      have c_5 : (fMark T st = x) := c_5
      refine lv_aload_n hx hb d_Reader_skip_10 rfl (lv_at hl 0 rfl) ?_
      refine lv_dup hx hb d_Reader_skip_11 rfl ?_
      refine va_get (D := D) (ci := 1) (v := .int (rPl st)) (C := "HeadDesk$Reader") (T := F_Reader) (N := 11) hx hb hts a_Reader hown hX.1 hP 0 rfl rfl 6 (by decide) (hts _ m_47) (fun _ h9 => h9) rfl d_Reader_skip_12 ?_
      refine lv_iconst (v := 1) hx hb d_Reader_skip_15 (by decide) ?_
      refine lv_iadd hx hb d_Reader_skip_16 ?_
      refine va_put (D := D) (ci := 1) (v := .int ((rPl st) + 1)) (ty := .int) (C := "HeadDesk$Reader") (T := F_Reader) (N := 11) hx hb hts a_Reader t_Reader k_Reader n_Reader hown hX.1 hP hD hS 0 rfl rfl 6 (by decide) (hts _ m_47) (fun _ h9 => h9) rfl (by decide +kernel) rfl rfl (Nat.le_of_ble_eq_true rfl) d_Reader_skip_17 (fun H locs hP hD hS => ?_)
      have hP : va_P D vwCl (rdW ad cd T (sPl st ((rPl st) + 1))) H := hP
      have hD : va_D A (rdW ad cd T (sPl st ((rPl st) + 1))) := hD
      refine lv_iconst (v := 1) hx hb d_Reader_skip_20 (by decide) ?_
      exact hret H locs (sPl st ((rPl st) + 1)) true _ _ hP hD hS (pr2 (by first | (simp only [fSkip, if_pos c_5, fStop, if_true, if_false, Bool.false_eq_true, ↓reduceIte]; done) | (simp only [fSkip, if_pos c_5, fStop, if_true, if_false, Bool.false_eq_true, ↓reduceIte]; with_reducible rfl))) d_Reader_skip_21
    · skip
      have c_5 : ¬ (fMark T st = x) := c_5
      refine lv_iconst (v := 0) hx hb d_Reader_skip_8 (by decide) ?_
      exact hret H locs st false _ _ hP hD hS (pr2 (by first | (simp only [fSkip, if_neg c_5, fStop, if_true, if_false, Bool.false_eq_true, ↓reduceIte]; done) | (simp only [fSkip, if_neg c_5, fStop, if_true, if_false, Bool.false_eq_true, ↓reduceIte]; with_reducible rfl))) d_Reader_skip_9
  rw [hH, hlo] at goal
  exact goal
set_option maxHeartbeats 4000000 in
set_option maxRecDepth 100000 in
theorem c_Reader_take (hT : T.2 ≤ 300) (st : RS) (x : Int32) : hx_Mz l D (tyH cd) adK adV tF (rdW ad cd T) y_Reader_take w_Reader_take (rmD 3) [.ref (ad 0), .int x] st ((fTake T st x).1) ((fTake T st x).2) := by
  refine hx_Mz.of (cc := b_Reader_take) (maxL := 2) (by decide) rfl (Nat.le_of_ble_eq_true rfl) ?_
  intro p e s m below meth c A Q ls hI hX hA hP hD hS hl hret
  obtain ⟨hx, hb, hml, hown, hts⟩ := id hI
  have hts : ∀ w ∈ aw, w.before ([.ref (ad 0), .int x] : List Value).toArray s = true := fun w h => hts w (List.mem_cons_of_mem _ h)
  have hown : s.vm.findClass "HeadDesk$Reader" = some m.cls := hown
  have hI : hx_In p s m ([.ref (ad 0), .int x] : List Value).toArray c b_Reader_take 2 "HeadDesk$Reader" aw := ⟨hx, hb, hml, hown, hts⟩
  have hP : va_P D vwCl (rdW ad cd T st) s.heap := hP
  obtain ⟨H, hH⟩ : ∃ H, H = s.heap := ⟨_, rfl⟩
  obtain ⟨locs, hlo⟩ : ∃ locs : List Loc, locs = [] := ⟨_, rfl⟩
  have hS : va_S A s.heap H locs := by rw [hH, hlo]; exact hS
  have hP : va_P D vwCl (rdW ad cd T st) H := by rw [hH]; exact hP
  have hl : lv_has ls 2 [(0, .ref (ad 0)), (1, .int x)] := hl
  have goal : W p l e (rmD 3) s m ([.ref (ad 0), .int x] : List Value).toArray below meth c H locs 0 0 Q (F0 m 0 ls []) := by
    refine lv_aload_n hx hb d_Reader_take_0 rfl (lv_at hl 0 rfl) ?_
    refine hx_Vi (wr := []) (As := []) (rest := []) hI (c_Reader_mark hT st ) (cw_V (C := "HeadDesk$Reader") 0 hts m_53 m_55 m_56 m_57 m_54 (by decide +kernel) ⟨by decide, by decide⟩) hX hA hP hD hS [0, 1, 2, 3, 4, 5, 6, 7] [] rfl rfl (by decide) (by decide) (by decide) (va_recv hX.1 hP (ci := 1) (q0 := 0) rfl rfl) rfl hl.1 rfl (Nat.le_of_ble_eq_true rfl) d_Reader_take_1 ⟨Nat.zero_le _, Nat.zero_le _⟩ (fun H locs hP hD hS => ?_)
    have hP : va_P D vwCl (rdW ad cd T st) H := hP
    have hD : va_D A (rdW ad cd T st) := hD
    refine lv_iload_n hx hb d_Reader_take_4 rfl (lv_at hl 1 rfl) ?_
    refine lv_icmp_eq (tgt := 17) hx hb d_Reader_take_5 (by decide) (fun c_5 => ?_) (fun c_5 => ?_)
    · skip
      have c_5 : (fMark T st = x) := c_5
      refine lv_aload_n hx hb d_Reader_take_17 rfl (lv_at hl 0 rfl) ?_
      refine lv_dup hx hb d_Reader_take_18 rfl ?_
      refine va_get (D := D) (ci := 1) (v := .int (rPl st)) (C := "HeadDesk$Reader") (T := F_Reader) (N := 11) hx hb hts a_Reader hown hX.1 hP 0 rfl rfl 6 (by decide) (hts _ m_47) (fun _ h9 => h9) rfl d_Reader_take_19 ?_
      refine lv_iconst (v := 1) hx hb d_Reader_take_22 (by decide) ?_
      refine lv_iadd hx hb d_Reader_take_23 ?_
      refine va_put (D := D) (ci := 1) (v := .int ((rPl st) + 1)) (ty := .int) (C := "HeadDesk$Reader") (T := F_Reader) (N := 11) hx hb hts a_Reader t_Reader k_Reader n_Reader hown hX.1 hP hD hS 0 rfl rfl 6 (by decide) (hts _ m_47) (fun _ h9 => h9) rfl (by decide +kernel) rfl rfl (Nat.le_of_ble_eq_true rfl) d_Reader_take_24 (fun H locs hP hD hS => ?_)
      have hP : va_P D vwCl (rdW ad cd T (sPl st ((rPl st) + 1))) H := hP
      have hD : va_D A (rdW ad cd T (sPl st ((rPl st) + 1))) := hD
      refine lv_iconst (v := 1) hx hb d_Reader_take_27 (by decide) ?_
      exact hret H locs (sPl st ((rPl st) + 1)) true _ _ hP hD hS (pr2 (by first | (simp only [fTake, if_pos c_5, fStop, if_true, if_false, Bool.false_eq_true, ↓reduceIte]; done) | (simp only [fTake, if_pos c_5, fStop, if_true, if_false, Bool.false_eq_true, ↓reduceIte]; with_reducible rfl))) d_Reader_take_28
    · skip
      have c_5 : ¬ (fMark T st = x) := c_5
      refine lv_aload_n hx hb d_Reader_take_8 rfl (lv_at hl 0 rfl) ?_
      refine lv_aload_n hx hb d_Reader_take_9 rfl (lv_at hl 0 rfl) ?_
      refine va_get (D := D) (ci := 1) (v := .int (rPl st)) (C := "HeadDesk$Reader") (T := F_Reader) (N := 11) hx hb hts a_Reader hown hX.1 hP 0 rfl rfl 6 (by decide) (hts _ m_47) (fun _ h9 => h9) rfl d_Reader_take_10 ?_
      refine hx_Vz (wr := []) (As := [.int (rPl st)]) (rest := []) hI (c_Reader_stop hT st (rPl st)) (cw_V (C := "HeadDesk$Reader") 1 hts m_58 m_60 m_61 m_57 m_59 (by decide +kernel) ⟨by decide, by decide⟩) hX hA hP hD hS [0, 1, 2, 3, 4, 5, 6, 7] [] rfl rfl (by decide) (by decide) (by decide) (va_recv hX.1 hP (ci := 1) (q0 := 0) rfl rfl) rfl hl.1 rfl (Nat.le_of_ble_eq_true rfl) d_Reader_take_13 ⟨Nat.zero_le _, Nat.zero_le _⟩ (fun H locs hP hD hS => ?_)
      obtain ⟨s_13, e_13⟩ : ∃ z : RS, z = sSk st (rPl st) := ⟨_, rfl⟩
      have hP : va_P D vwCl (rdW ad cd T s_13) H := by rw [e_13]; exact hP
      have hD : va_D A (rdW ad cd T s_13) := by rw [e_13]; exact hD
      exact hret H locs s_13 false _ _ hP hD hS (pr2 (by first | (simp only [fTake, if_neg c_5, ← e_13, fStop, if_true, if_false, Bool.false_eq_true, ↓reduceIte]; done) | (simp only [fTake, if_neg c_5, ← e_13, fStop, if_true, if_false, Bool.false_eq_true, ↓reduceIte]; with_reducible rfl) | (simp only [fTake, if_neg c_5, ← e_13, fStop, if_true, if_false, Bool.false_eq_true, ↓reduceIte]; rw [e_13]))) d_Reader_take_16
  rw [hH, hlo] at goal
  exact goal
set_option maxHeartbeats 4000000 in
set_option maxRecDepth 100000 in
theorem c_Reader_stuckAt (hT : T.2 ≤ 300) (st : RS)  : hx_Mi l D (tyH cd) adK adV tF (rdW ad cd T) y_Reader_stuckAt w_Reader_stuckAt (rmD 1) [.ref (ad 0)] st (rSk st) st := by
  refine hx_Mi.of (cc := b_Reader_stuckAt) (maxL := 1) rfl (by decide) rfl (Nat.le_of_ble_eq_true rfl) ?_
  intro p e s m below meth c A Q ls hI hX hA hP hD hS hl hret
  obtain ⟨hx, hb, hml, hown, hts⟩ := id hI
  have hts : ∀ w ∈ aw, w.before ([.ref (ad 0)] : List Value).toArray s = true := fun w h => hts w (List.mem_cons_of_mem _ h)
  have hown : s.vm.findClass "HeadDesk$Reader" = some m.cls := hown
  have hI : hx_In p s m ([.ref (ad 0)] : List Value).toArray c b_Reader_stuckAt 1 "HeadDesk$Reader" aw := ⟨hx, hb, hml, hown, hts⟩
  have hP : va_P D vwCl (rdW ad cd T st) s.heap := hP
  obtain ⟨H, hH⟩ : ∃ H, H = s.heap := ⟨_, rfl⟩
  obtain ⟨locs, hlo⟩ : ∃ locs : List Loc, locs = [] := ⟨_, rfl⟩
  have hS : va_S A s.heap H locs := by rw [hH, hlo]; exact hS
  have hP : va_P D vwCl (rdW ad cd T st) H := by rw [hH]; exact hP
  have hl : lv_has ls 1 [(0, .ref (ad 0))] := hl
  have goal : W p l e (rmD 1) s m ([.ref (ad 0)] : List Value).toArray below meth c H locs 0 0 Q (F0 m 0 ls []) := by
    refine lv_aload_n hx hb d_Reader_stuckAt_0 rfl (lv_at hl 0 rfl) ?_
    refine va_get (D := D) (ci := 1) (v := .int (rSk st)) (C := "HeadDesk$Reader") (T := F_Reader) (N := 11) hx hb hts a_Reader hown hX.1 hP 0 rfl rfl 7 (by decide) (hts _ m_52) (fun _ h9 => h9) rfl d_Reader_stuckAt_1 ?_
    exact hret H locs st (rSk st) _ _ hP hD hS ⟨(by first | (simp only [rSk, fStop, if_true, if_false, Bool.false_eq_true, ↓reduceIte]; done) | (simp only [rSk, fStop, if_true, if_false, Bool.false_eq_true, ↓reduceIte]; with_reducible rfl)), rfl⟩ d_Reader_stuckAt_4
  rw [hH, hlo] at goal
  exact goal
end
section
variable {l : Launch} {D : va_G} {ad : Nat → Nat} {cd : Nat → ClassId} {adK adV : Nat → Nat} {tF : Nat} {T : TX} {tys : List (ClassId × FieldType)}

set_option maxHeartbeats 4000000 in
set_option maxRecDepth 100000 in
theorem c_Reader_takeNumber (hT : T.2 ≤ 300) (st : RS) (x : Int32) : hx_Mz l D (tyH cd) adK adV tF (rdW ad cd T) y_Reader_takeNumber w_Reader_takeNumber (rmD 3) [.ref (ad 0), .int x] st ((fNum T st x).1) ((fNum T st x).2) := by
  refine hx_Mz.of (cc := b_Reader_takeNumber) (maxL := 4) (by decide) rfl (Nat.le_of_ble_eq_true rfl) ?_
  intro p e s m below meth c A Q ls hI hX hA hP hD hS hl hret
  obtain ⟨hx, hb, hml, hown, hts⟩ := id hI
  have hts : ∀ w ∈ aw, w.before ([.ref (ad 0), .int x] : List Value).toArray s = true := fun w h => hts w (List.mem_cons_of_mem _ h)
  have hown : s.vm.findClass "HeadDesk$Reader" = some m.cls := hown
  have hI : hx_In p s m ([.ref (ad 0), .int x] : List Value).toArray c b_Reader_takeNumber 4 "HeadDesk$Reader" aw := ⟨hx, hb, hml, hown, hts⟩
  have hP : va_P D vwCl (rdW ad cd T st) s.heap := hP
  obtain ⟨H, hH⟩ : ∃ H, H = s.heap := ⟨_, rfl⟩
  obtain ⟨locs, hlo⟩ : ∃ locs : List Loc, locs = [] := ⟨_, rfl⟩
  have hS : va_S A s.heap H locs := by rw [hH, hlo]; exact hS
  have hP : va_P D vwCl (rdW ad cd T st) H := by rw [hH]; exact hP
  have hl : lv_has ls 4 [(0, .ref (ad 0)), (1, .int x)] := hl
  have goal : W p l e (rmD 3) s m ([.ref (ad 0), .int x] : List Value).toArray below meth c H locs 0 0 Q (F0 m 0 ls []) := by
    refine lv_aload_n hx hb d_Reader_takeNumber_0 rfl (lv_at hl 0 rfl) ?_
    refine va_get (D := D) (ci := 1) (v := .int (rPl st)) (C := "HeadDesk$Reader") (T := F_Reader) (N := 11) hx hb hts a_Reader hown hX.1 hP 0 rfl rfl 6 (by decide) (hts _ m_47) (fun _ h9 => h9) rfl d_Reader_takeNumber_1 ?_
    refine lv_istore_n (lv' := [(2, .int (rPl st)), (0, .ref (ad 0)), (1, .int x)]) hx hb d_Reader_takeNumber_4 rfl hl (by decide) rfl (fun ls hl => ?_)
    refine lv_aload_n hx hb d_Reader_takeNumber_5 rfl (lv_at hl 1 rfl) ?_
    refine lv_iconst (v := 0) hx hb d_Reader_takeNumber_6 (by decide) ?_
    refine va_put (D := D) (ci := 1) (v := .int 0) (ty := .int) (C := "HeadDesk$Reader") (T := F_Reader) (N := 11) hx hb hts a_Reader t_Reader k_Reader n_Reader hown hX.1 hP hD hS 0 rfl rfl 8 (by decide) (hts _ m_62) (fun _ h9 => h9) rfl (by decide +kernel) rfl rfl (Nat.le_of_ble_eq_true rfl) d_Reader_takeNumber_7 (fun H locs hP hD hS => ?_)
    have hP : va_P D vwCl (rdW ad cd T (sNb st 0)) H := hP
    have hD : va_D A (rdW ad cd T (sNb st 0)) := hD
    refine lv_iconst (v := 0) hx hb d_Reader_takeNumber_10 (by decide) ?_
    refine lv_istore_n (lv' := [(3, .int 0), (2, .int (rPl st)), (0, .ref (ad 0)), (1, .int x)]) hx hb d_Reader_takeNumber_11 rfl hl (by decide) rfl (fun ls hl => ?_)
    have loop12 : ∀ (k : Nat) (j : Nat) (s1 : RS) (H : Heap) (locs : List Loc) (ls : Array Slot), j + k = 5 → fNum T st x = fNumE (fNumL T k s1) (rPl st) x → va_P D vwCl (rdW ad cd T s1) H → va_D A (rdW ad cd T s1) → va_S A s.heap H locs → lv_has ls 4 [(3, .int (nI j)), (2, .int (rPl st)), (0, .ref (ad 0)), (1, .int x)] → W p l e (rmD 3) s m ([.ref (ad 0), .int x] : List Value).toArray below meth c H locs 0 0 Q (F0 m 12 ls []) := by
      intro k
      induction k with
      | zero =>
        intro j s1 H locs ls hj hF hP hD hS hl
        refine lv_iload_n hx hb d_Reader_takeNumber_12 rfl (lv_at hl 0 rfl) ?_
        refine lv_iconst (v := 5) hx hb d_Reader_takeNumber_13 (by decide) ?_
        refine lv_icmp_ge (tgt := 62) hx hb d_Reader_takeNumber_14 (by decide) (fun c_14 => ?_) (fun c_14 => ?_)
        · skip
          have c_14 : (5 ≤ nI j) := c_14
          refine lv_aload_n hx hb d_Reader_takeNumber_62 rfl (lv_at hl 2 rfl) ?_
          refine va_get (D := D) (ci := 1) (v := .int (rPl s1)) (C := "HeadDesk$Reader") (T := F_Reader) (N := 11) hx hb hts a_Reader hown hX.1 hP 0 rfl rfl 6 (by decide) (hts _ m_47) (fun _ h9 => h9) rfl d_Reader_takeNumber_63 ?_
          refine lv_iload_n hx hb d_Reader_takeNumber_66 rfl (lv_at hl 1 rfl) ?_
          refine lv_icmp_ne (tgt := 79) hx hb d_Reader_takeNumber_67 (by decide) (fun c_67 => ?_) (fun c_67 => ?_)
          · skip
            have c_67 : ¬ (rPl s1 = rPl st) := c_67
            refine lv_aload_n hx hb d_Reader_takeNumber_79 rfl (lv_at hl 2 rfl) ?_
            refine va_get (D := D) (ci := 1) (v := .int (rNb s1)) (C := "HeadDesk$Reader") (T := F_Reader) (N := 11) hx hb hts a_Reader hown hX.1 hP 0 rfl rfl 8 (by decide) (hts _ m_62) (fun _ h9 => h9) rfl d_Reader_takeNumber_80 ?_
            refine lv_iload_n hx hb d_Reader_takeNumber_83 rfl (lv_at hl 3 rfl) ?_
            refine lv_icmp_le (tgt := 95) hx hb d_Reader_takeNumber_84 (by decide) (fun c_84 => ?_) (fun c_84 => ?_)
            · skip
              have c_84 : (rNb s1 ≤ x) := c_84
              refine lv_iconst (v := 1) hx hb d_Reader_takeNumber_95 (by decide) ?_
              refine lv_goto (tgt := 100) hx hb d_Reader_takeNumber_96 (by decide) ?_
              exact hret H locs s1 true _ _ hP hD hS (pr2 (by first | (rw [hF]; ((try simp only [fNumL]) <;> simp only [fNumL, fNumE, if_pos c_14, if_neg c_67, if_pos c_84, fStop, if_true, if_false, Bool.false_eq_true, ↓reduceIte]); done) | (rw [hF]; ((try simp only [fNumL]) <;> simp only [fNumL, fNumE, if_pos c_14, if_neg c_67, if_pos c_84, fStop, if_true, if_false, Bool.false_eq_true, ↓reduceIte]); with_reducible rfl))) d_Reader_takeNumber_100
            · skip
              have c_84 : ¬ (rNb s1 ≤ x) := c_84
              refine lv_aload_n hx hb d_Reader_takeNumber_87 rfl (lv_at hl 2 rfl) ?_
              refine lv_iload_n hx hb d_Reader_takeNumber_88 rfl (lv_at hl 1 rfl) ?_
              refine hx_Vz (wr := []) (As := [.int (rPl st)]) (rest := []) hI (c_Reader_stop hT s1 (rPl st)) (cw_V (C := "HeadDesk$Reader") 1 hts m_58 m_60 m_61 m_57 m_59 (by decide +kernel) ⟨by decide, by decide⟩) hX hA hP hD hS [0, 1, 2, 3, 4, 5, 6, 7] [] rfl rfl (by decide) (by decide) (by decide) (va_recv hX.1 hP (ci := 1) (q0 := 0) rfl rfl) rfl hl.1 rfl (Nat.le_of_ble_eq_true rfl) d_Reader_takeNumber_89 ⟨Nat.zero_le _, Nat.zero_le _⟩ (fun H locs hP hD hS => ?_)
              obtain ⟨s_89, e_89⟩ : ∃ z : RS, z = sSk s1 (rPl st) := ⟨_, rfl⟩
              have hP : va_P D vwCl (rdW ad cd T s_89) H := by rw [e_89]; exact hP
              have hD : va_D A (rdW ad cd T s_89) := by rw [e_89]; exact hD
              refine lv_if_eq (tgt := 99) hx hb d_Reader_takeNumber_92 (by decide) (fun c_92 => ?_) (fun c_92 => ?_)
              · skip
                have c_92 : false = false := bI_0 c_92
                refine lv_iconst (v := 0) hx hb d_Reader_takeNumber_99 (by decide) ?_
                exact hret H locs s_89 false _ _ hP hD hS (pr2 (by first | (rw [hF]; ((try simp only [fNumL]) <;> simp only [fNumL, fNumE, if_pos c_14, if_neg c_67, if_neg c_84, ← e_89, fStop, if_true, if_false, Bool.false_eq_true, ↓reduceIte]); done) | (rw [hF]; ((try simp only [fNumL]) <;> simp only [fNumL, fNumE, if_pos c_14, if_neg c_67, if_neg c_84, ← e_89, fStop, if_true, if_false, Bool.false_eq_true, ↓reduceIte]); with_reducible rfl) | (rw [hF]; ((try simp only [fNumL]) <;> simp only [fNumL, fNumE, if_pos c_14, if_neg c_67, if_neg c_84, ← e_89, fStop, if_true, if_false, Bool.false_eq_true, ↓reduceIte]); rw [e_89]))) d_Reader_takeNumber_100
              · skip
                exact absurd rfl c_92
          · skip
            have c_67 : (rPl s1 = rPl st) := c_67
            refine lv_aload_n hx hb d_Reader_takeNumber_70 rfl (lv_at hl 2 rfl) ?_
            refine lv_aload_n hx hb d_Reader_takeNumber_71 rfl (lv_at hl 2 rfl) ?_
            refine va_get (D := D) (ci := 1) (v := .int (rPl s1)) (C := "HeadDesk$Reader") (T := F_Reader) (N := 11) hx hb hts a_Reader hown hX.1 hP 0 rfl rfl 6 (by decide) (hts _ m_47) (fun _ h9 => h9) rfl d_Reader_takeNumber_72 ?_
            refine hx_Vz (wr := []) (As := [.int (rPl s1)]) (rest := []) hI (c_Reader_stop hT s1 (rPl s1)) (cw_V (C := "HeadDesk$Reader") 1 hts m_58 m_60 m_61 m_57 m_59 (by decide +kernel) ⟨by decide, by decide⟩) hX hA hP hD hS [0, 1, 2, 3, 4, 5, 6, 7] [] rfl rfl (by decide) (by decide) (by decide) (va_recv hX.1 hP (ci := 1) (q0 := 0) rfl rfl) rfl hl.1 rfl (Nat.le_of_ble_eq_true rfl) d_Reader_takeNumber_75 ⟨Nat.zero_le _, Nat.zero_le _⟩ (fun H locs hP hD hS => ?_)
            obtain ⟨s_75, e_75⟩ : ∃ z : RS, z = sSk s1 (rPl s1) := ⟨_, rfl⟩
            have hP : va_P D vwCl (rdW ad cd T s_75) H := by rw [e_75]; exact hP
            have hD : va_D A (rdW ad cd T s_75) := by rw [e_75]; exact hD
            exact hret H locs s_75 false _ _ hP hD hS (pr2 (by first | (rw [hF]; ((try simp only [fNumL]) <;> simp only [fNumL, fNumE, if_pos c_14, if_pos c_67, ← e_75, fStop, if_true, if_false, Bool.false_eq_true, ↓reduceIte]); done) | (rw [hF]; ((try simp only [fNumL]) <;> simp only [fNumL, fNumE, if_pos c_14, if_pos c_67, ← e_75, fStop, if_true, if_false, Bool.false_eq_true, ↓reduceIte]); with_reducible rfl) | (rw [hF]; ((try simp only [fNumL]) <;> simp only [fNumL, fNumE, if_pos c_14, if_pos c_67, ← e_75, fStop, if_true, if_false, Bool.false_eq_true, ↓reduceIte]); rw [e_75]))) d_Reader_takeNumber_78
        · skip
          exact absurd (nI_gyes (N := 5) rfl (by omega) (by omega)) c_14
      | succ k ih =>
        intro j s1 H locs ls hj hF hP hD hS hl
        refine lv_iload_n hx hb d_Reader_takeNumber_12 rfl (lv_at hl 0 rfl) ?_
        refine lv_iconst (v := 5) hx hb d_Reader_takeNumber_13 (by decide) ?_
        refine lv_icmp_ge (tgt := 62) hx hb d_Reader_takeNumber_14 (by decide) (fun c_14 => ?_) (fun c_14 => ?_)
        · skip
          exact absurd c_14 (nI_gno (N := 5) rfl (by omega) (by omega))
        · skip
          have c_14 : ¬ (5 ≤ nI j) := c_14
          refine lv_aload_n hx hb d_Reader_takeNumber_17 rfl (lv_at hl 2 rfl) ?_
          refine hx_Vi (wr := []) (As := []) (rest := []) hI (c_Reader_mark hT s1 ) (cw_V (C := "HeadDesk$Reader") 0 hts m_53 m_55 m_56 m_57 m_54 (by decide +kernel) ⟨by decide, by decide⟩) hX hA hP hD hS [0, 1, 2, 3, 4, 5, 6, 7] [] rfl rfl (by decide) (by decide) (by decide) (va_recv hX.1 hP (ci := 1) (q0 := 0) rfl rfl) rfl hl.1 rfl (Nat.le_of_ble_eq_true rfl) d_Reader_takeNumber_18 ⟨Nat.zero_le _, Nat.zero_le _⟩ (fun H locs hP hD hS => ?_)
          have hP : va_P D vwCl (rdW ad cd T s1) H := hP
          have hD : va_D A (rdW ad cd T s1) := hD
          refine hx_Sz (wr := [(ad 0, .inr (1, [.ref (ad 1), .ref (ad 3), .ref (ad 4), .ref (ad 5), .int (rNm s1), .int (rKd s1), .int (rPl s1), .int (rSk s1), .int (rNb s1), .int (rWs s1), .int (rWe s1)])), (ad 1, .inr (2, [.ref (ad 2), .int (T.2)])), (ad 2, .inl (cd 0, 300, .inl T.1)), (ad 3, .inl (cd 1, 100, .inl (rNs s1))), (ad 4, .inl (cd 2, 100, .inl (rNe s1))), (ad 5, .inr (0, [.ref (ad 6), .ref (ad 7)])), (ad 6, .inl (cd 3, 18, .inl (rVs s1))), (ad 7, .inl (cd 4, 8, .inl (rVr s1)))]) (As := [.int (fMark T s1)]) (rest := []) hI (c_Reader_isDigit (fMark T s1)) (cw_S 1 hts m_63 m_65 m_57 m_64 (by decide +kernel) ⟨by decide, by decide⟩) hX hA hP hD hS [] [0, 1, 2, 3, 4, 5, 6, 7] rfl rfl (by decide) (by decide) (by decide) rfl hl.1 rfl (Nat.le_of_ble_eq_true rfl) d_Reader_takeNumber_21 ⟨Nat.zero_le _, Nat.zero_le _⟩ (fun H locs hP hD hS => ?_)
          have hP : va_P D vwCl (rdW ad cd T s1) H := hP.sub [0, 1, 2, 3, 4, 5, 6, 7] rfl
          have hD : va_D A (rdW ad cd T s1) := hD.sub [0, 1, 2, 3, 4, 5, 6, 7] (by decide) rfl
          refine lv_if_eq (tgt := 62) hx hb d_Reader_takeNumber_24 (by decide) (fun c_24 => ?_) (fun c_24 => ?_)
          · skip
            have c_24 : (isD (fMark T s1)) = false := bI_0 c_24
            refine lv_aload_n hx hb d_Reader_takeNumber_62 rfl (lv_at hl 2 rfl) ?_
            refine va_get (D := D) (ci := 1) (v := .int (rPl s1)) (C := "HeadDesk$Reader") (T := F_Reader) (N := 11) hx hb hts a_Reader hown hX.1 hP 0 rfl rfl 6 (by decide) (hts _ m_47) (fun _ h9 => h9) rfl d_Reader_takeNumber_63 ?_
            refine lv_iload_n hx hb d_Reader_takeNumber_66 rfl (lv_at hl 1 rfl) ?_
            refine lv_icmp_ne (tgt := 79) hx hb d_Reader_takeNumber_67 (by decide) (fun c_67 => ?_) (fun c_67 => ?_)
            · skip
              have c_67 : ¬ (rPl s1 = rPl st) := c_67
              refine lv_aload_n hx hb d_Reader_takeNumber_79 rfl (lv_at hl 2 rfl) ?_
              refine va_get (D := D) (ci := 1) (v := .int (rNb s1)) (C := "HeadDesk$Reader") (T := F_Reader) (N := 11) hx hb hts a_Reader hown hX.1 hP 0 rfl rfl 8 (by decide) (hts _ m_62) (fun _ h9 => h9) rfl d_Reader_takeNumber_80 ?_
              refine lv_iload_n hx hb d_Reader_takeNumber_83 rfl (lv_at hl 3 rfl) ?_
              refine lv_icmp_le (tgt := 95) hx hb d_Reader_takeNumber_84 (by decide) (fun c_84 => ?_) (fun c_84 => ?_)
              · skip
                have c_84 : (rNb s1 ≤ x) := c_84
                refine lv_iconst (v := 1) hx hb d_Reader_takeNumber_95 (by decide) ?_
                refine lv_goto (tgt := 100) hx hb d_Reader_takeNumber_96 (by decide) ?_
                exact hret H locs s1 true _ _ hP hD hS (pr2 (by first | (rw [hF]; ((try simp only [fNumL]) <;> simp only [fNumL, fNumE, if_neg c_14, c_24, if_neg c_67, if_pos c_84, fStop, if_true, if_false, Bool.false_eq_true, ↓reduceIte]); done) | (rw [hF]; ((try simp only [fNumL]) <;> simp only [fNumL, fNumE, if_neg c_14, c_24, if_neg c_67, if_pos c_84, fStop, if_true, if_false, Bool.false_eq_true, ↓reduceIte]); with_reducible rfl))) d_Reader_takeNumber_100
              · skip
                have c_84 : ¬ (rNb s1 ≤ x) := c_84
                refine lv_aload_n hx hb d_Reader_takeNumber_87 rfl (lv_at hl 2 rfl) ?_
                refine lv_iload_n hx hb d_Reader_takeNumber_88 rfl (lv_at hl 1 rfl) ?_
                refine hx_Vz (wr := []) (As := [.int (rPl st)]) (rest := []) hI (c_Reader_stop hT s1 (rPl st)) (cw_V (C := "HeadDesk$Reader") 1 hts m_58 m_60 m_61 m_57 m_59 (by decide +kernel) ⟨by decide, by decide⟩) hX hA hP hD hS [0, 1, 2, 3, 4, 5, 6, 7] [] rfl rfl (by decide) (by decide) (by decide) (va_recv hX.1 hP (ci := 1) (q0 := 0) rfl rfl) rfl hl.1 rfl (Nat.le_of_ble_eq_true rfl) d_Reader_takeNumber_89 ⟨Nat.zero_le _, Nat.zero_le _⟩ (fun H locs hP hD hS => ?_)
                obtain ⟨s_89, e_89⟩ : ∃ z : RS, z = sSk s1 (rPl st) := ⟨_, rfl⟩
                have hP : va_P D vwCl (rdW ad cd T s_89) H := by rw [e_89]; exact hP
                have hD : va_D A (rdW ad cd T s_89) := by rw [e_89]; exact hD
                refine lv_if_eq (tgt := 99) hx hb d_Reader_takeNumber_92 (by decide) (fun c_92 => ?_) (fun c_92 => ?_)
                · skip
                  have c_92 : false = false := bI_0 c_92
                  refine lv_iconst (v := 0) hx hb d_Reader_takeNumber_99 (by decide) ?_
                  exact hret H locs s_89 false _ _ hP hD hS (pr2 (by first | (rw [hF]; ((try simp only [fNumL]) <;> simp only [fNumL, fNumE, if_neg c_14, c_24, if_neg c_67, if_neg c_84, ← e_89, fStop, if_true, if_false, Bool.false_eq_true, ↓reduceIte]); done) | (rw [hF]; ((try simp only [fNumL]) <;> simp only [fNumL, fNumE, if_neg c_14, c_24, if_neg c_67, if_neg c_84, ← e_89, fStop, if_true, if_false, Bool.false_eq_true, ↓reduceIte]); with_reducible rfl) | (rw [hF]; ((try simp only [fNumL]) <;> simp only [fNumL, fNumE, if_neg c_14, c_24, if_neg c_67, if_neg c_84, ← e_89, fStop, if_true, if_false, Bool.false_eq_true, ↓reduceIte]); rw [e_89]))) d_Reader_takeNumber_100
                · skip
                  exact absurd rfl c_92
            · skip
              have c_67 : (rPl s1 = rPl st) := c_67
              refine lv_aload_n hx hb d_Reader_takeNumber_70 rfl (lv_at hl 2 rfl) ?_
              refine lv_aload_n hx hb d_Reader_takeNumber_71 rfl (lv_at hl 2 rfl) ?_
              refine va_get (D := D) (ci := 1) (v := .int (rPl s1)) (C := "HeadDesk$Reader") (T := F_Reader) (N := 11) hx hb hts a_Reader hown hX.1 hP 0 rfl rfl 6 (by decide) (hts _ m_47) (fun _ h9 => h9) rfl d_Reader_takeNumber_72 ?_
              refine hx_Vz (wr := []) (As := [.int (rPl s1)]) (rest := []) hI (c_Reader_stop hT s1 (rPl s1)) (cw_V (C := "HeadDesk$Reader") 1 hts m_58 m_60 m_61 m_57 m_59 (by decide +kernel) ⟨by decide, by decide⟩) hX hA hP hD hS [0, 1, 2, 3, 4, 5, 6, 7] [] rfl rfl (by decide) (by decide) (by decide) (va_recv hX.1 hP (ci := 1) (q0 := 0) rfl rfl) rfl hl.1 rfl (Nat.le_of_ble_eq_true rfl) d_Reader_takeNumber_75 ⟨Nat.zero_le _, Nat.zero_le _⟩ (fun H locs hP hD hS => ?_)
              obtain ⟨s_75, e_75⟩ : ∃ z : RS, z = sSk s1 (rPl s1) := ⟨_, rfl⟩
              have hP : va_P D vwCl (rdW ad cd T s_75) H := by rw [e_75]; exact hP
              have hD : va_D A (rdW ad cd T s_75) := by rw [e_75]; exact hD
              exact hret H locs s_75 false _ _ hP hD hS (pr2 (by first | (rw [hF]; ((try simp only [fNumL]) <;> simp only [fNumL, fNumE, if_neg c_14, c_24, if_pos c_67, ← e_75, fStop, if_true, if_false, Bool.false_eq_true, ↓reduceIte]); done) | (rw [hF]; ((try simp only [fNumL]) <;> simp only [fNumL, fNumE, if_neg c_14, c_24, if_pos c_67, ← e_75, fStop, if_true, if_false, Bool.false_eq_true, ↓reduceIte]); with_reducible rfl) | (rw [hF]; ((try simp only [fNumL]) <;> simp only [fNumL, fNumE, if_neg c_14, c_24, if_pos c_67, ← e_75, fStop, if_true, if_false, Bool.false_eq_true, ↓reduceIte]); rw [e_75]))) d_Reader_takeNumber_78
          · skip
            have c_24 : (isD (fMark T s1)) = true := bI_1 c_24
            refine lv_aload_n hx hb d_Reader_takeNumber_27 rfl (lv_at hl 2 rfl) ?_
            refine lv_aload_n hx hb d_Reader_takeNumber_28 rfl (lv_at hl 2 rfl) ?_
            refine va_get (D := D) (ci := 1) (v := .int (rNb s1)) (C := "HeadDesk$Reader") (T := F_Reader) (N := 11) hx hb hts a_Reader hown hX.1 hP 0 rfl rfl 8 (by decide) (hts _ m_62) (fun _ h9 => h9) rfl d_Reader_takeNumber_29 ?_
            refine lv_bipush (v := 10) hx hb d_Reader_takeNumber_32 (by decide) ?_
            refine lv_imul hx hb d_Reader_takeNumber_34 ?_
            refine lv_aload_n hx hb d_Reader_takeNumber_35 rfl (lv_at hl 2 rfl) ?_
            refine hx_Vi (wr := []) (As := []) (rest := [.int ((rNb s1) * 10), .ref (ad 0)]) hI (c_Reader_mark hT s1 ) (cw_V (C := "HeadDesk$Reader") 0 hts m_53 m_55 m_56 m_57 m_54 (by decide +kernel) ⟨by decide, by decide⟩) hX hA hP hD hS [0, 1, 2, 3, 4, 5, 6, 7] [] rfl rfl (by decide) (by decide) (by decide) (va_recv hX.1 hP (ci := 1) (q0 := 0) rfl rfl) rfl hl.1 rfl (Nat.le_of_ble_eq_true rfl) d_Reader_takeNumber_36 ⟨Nat.zero_le _, Nat.zero_le _⟩ (fun H locs hP hD hS => ?_)
            have hP : va_P D vwCl (rdW ad cd T s1) H := hP
            have hD : va_D A (rdW ad cd T s1) := hD
            refine lv_bipush (v := 48) hx hb d_Reader_takeNumber_39 (by decide) ?_
            refine lv_isub hx hb d_Reader_takeNumber_41 ?_
            refine lv_iadd hx hb d_Reader_takeNumber_42 ?_
            refine va_put (D := D) (ci := 1) (v := .int (((rNb s1) * 10) + ((fMark T s1) - 48))) (ty := .int) (C := "HeadDesk$Reader") (T := F_Reader) (N := 11) hx hb hts a_Reader t_Reader k_Reader n_Reader hown hX.1 hP hD hS 0 rfl rfl 8 (by decide) (hts _ m_62) (fun _ h9 => h9) rfl (by decide +kernel) rfl rfl (Nat.le_of_ble_eq_true rfl) d_Reader_takeNumber_43 (fun H locs hP hD hS => ?_)
            have hP : va_P D vwCl (rdW ad cd T (sNb s1 (((rNb s1) * 10) + ((fMark T s1) - 48)))) H := hP
            have hD : va_D A (rdW ad cd T (sNb s1 (((rNb s1) * 10) + ((fMark T s1) - 48)))) := hD
            refine lv_aload_n hx hb d_Reader_takeNumber_46 rfl (lv_at hl 2 rfl) ?_
            refine lv_dup hx hb d_Reader_takeNumber_47 rfl ?_
            refine va_get (D := D) (ci := 1) (v := .int (rPl s1)) (C := "HeadDesk$Reader") (T := F_Reader) (N := 11) hx hb hts a_Reader hown hX.1 hP 0 rfl rfl 6 (by decide) (hts _ m_47) (fun _ h9 => h9) rfl d_Reader_takeNumber_48 ?_
            refine lv_iconst (v := 1) hx hb d_Reader_takeNumber_51 (by decide) ?_
            refine lv_iadd hx hb d_Reader_takeNumber_52 ?_
            refine va_put (D := D) (ci := 1) (v := .int ((rPl s1) + 1)) (ty := .int) (C := "HeadDesk$Reader") (T := F_Reader) (N := 11) hx hb hts a_Reader t_Reader k_Reader n_Reader hown hX.1 hP hD hS 0 rfl rfl 6 (by decide) (hts _ m_47) (fun _ h9 => h9) rfl (by decide +kernel) rfl rfl (Nat.le_of_ble_eq_true rfl) d_Reader_takeNumber_53 (fun H locs hP hD hS => ?_)
            have hP : va_P D vwCl (rdW ad cd T (sPl (sNb s1 (((rNb s1) * 10) + ((fMark T s1) - 48))) ((rPl s1) + 1))) H := hP
            have hD : va_D A (rdW ad cd T (sPl (sNb s1 (((rNb s1) * 10) + ((fMark T s1) - 48))) ((rPl s1) + 1))) := hD
            refine lv_iinc (v := nI (j + 1)) (lv' := [(3, .int (nI (j + 1))), (2, .int (rPl st)), (0, .ref (ad 0)), (1, .int x)]) hx hb d_Reader_takeNumber_56 hl (k := 0) rfl (by rw [nI_succ]; rfl) (by decide) rfl (fun ls hl => ?_)
            refine lv_goto (tgt := 12) hx hb d_Reader_takeNumber_59 (by decide) ?_
            exact ih (j + 1) (sPl (sNb s1 (((rNb s1) * 10) + ((fMark T s1) - 48))) ((rPl s1) + 1)) H locs ls (by omega)  (by first | (rw [hF]; ((try simp only [fNumL]) <;> simp only [fNumL, fNumE, if_neg c_14, c_24, fStop, if_true, if_false, Bool.false_eq_true, ↓reduceIte]); done) | (rw [hF]; ((try simp only [fNumL]) <;> simp only [fNumL, fNumE, if_neg c_14, c_24, fStop, if_true, if_false, Bool.false_eq_true, ↓reduceIte]); with_reducible rfl)) hP hD hS (lv_sub hl [0, 1, 2, 3] rfl)
    exact loop12 5 0 (sNb st 0) H locs ls (by omega) rfl hP hD hS (lv_sub hl [0, 1, 2, 3] rfl)
  rw [hH, hlo] at goal
  exact goal
set_option maxHeartbeats 4000000 in
set_option maxRecDepth 100000 in
theorem c_Reader_takeLetters (hT : T.2 ≤ 300) (st : RS) (x : Nat) (hx1 : x < 1000) : hx_Mz l D (tyH cd) adK adV tF (rdW ad cd T) y_Reader_takeLetters w_Reader_takeLetters (rmD 3) [.ref (ad 0), .int (nI x)] st ((fLet T st x).1) ((fLet T st x).2) := by
  refine hx_Mz.of (cc := b_Reader_takeLetters) (maxL := 3) (by decide) rfl (Nat.le_of_ble_eq_true rfl) ?_
  intro p e s m below meth c A Q ls hI hX hA hP hD hS hl hret
  obtain ⟨hx, hb, hml, hown, hts⟩ := id hI
  have hts : ∀ w ∈ aw, w.before ([.ref (ad 0), .int (nI x)] : List Value).toArray s = true := fun w h => hts w (List.mem_cons_of_mem _ h)
  have hown : s.vm.findClass "HeadDesk$Reader" = some m.cls := hown
  have hI : hx_In p s m ([.ref (ad 0), .int (nI x)] : List Value).toArray c b_Reader_takeLetters 3 "HeadDesk$Reader" aw := ⟨hx, hb, hml, hown, hts⟩
  have hP : va_P D vwCl (rdW ad cd T st) s.heap := hP
  obtain ⟨H, hH⟩ : ∃ H, H = s.heap := ⟨_, rfl⟩
  obtain ⟨locs, hlo⟩ : ∃ locs : List Loc, locs = [] := ⟨_, rfl⟩
  have hS : va_S A s.heap H locs := by rw [hH, hlo]; exact hS
  have hP : va_P D vwCl (rdW ad cd T st) H := by rw [hH]; exact hP
  have hl : lv_has ls 3 [(0, .ref (ad 0)), (1, .int (nI x))] := hl
  have goal : W p l e (rmD 3) s m ([.ref (ad 0), .int (nI x)] : List Value).toArray below meth c H locs 0 0 Q (F0 m 0 ls []) := by
    refine lv_aload_n hx hb d_Reader_takeLetters_0 rfl (lv_at hl 0 rfl) ?_
    refine lv_aload_n hx hb d_Reader_takeLetters_1 rfl (lv_at hl 0 rfl) ?_
    refine va_get (D := D) (ci := 1) (v := .int (rPl st)) (C := "HeadDesk$Reader") (T := F_Reader) (N := 11) hx hb hts a_Reader hown hX.1 hP 0 rfl rfl 6 (by decide) (hts _ m_47) (fun _ h9 => h9) rfl d_Reader_takeLetters_2 ?_
    refine va_put (D := D) (ci := 1) (v := .int (rPl st)) (ty := .int) (C := "HeadDesk$Reader") (T := F_Reader) (N := 11) hx hb hts a_Reader t_Reader k_Reader n_Reader hown hX.1 hP hD hS 0 rfl rfl 9 (by decide) (hts _ m_66) (fun _ h9 => h9) rfl (by decide +kernel) rfl rfl (Nat.le_of_ble_eq_true rfl) d_Reader_takeLetters_5 (fun H locs hP hD hS => ?_)
    have hP : va_P D vwCl (rdW ad cd T (sWs st (rPl st))) H := hP
    have hD : va_D A (rdW ad cd T (sWs st (rPl st))) := hD
    refine lv_iconst (v := 0) hx hb d_Reader_takeLetters_8 (by decide) ?_
    refine lv_istore_n (lv' := [(2, .int 0), (0, .ref (ad 0)), (1, .int (nI x))]) hx hb d_Reader_takeLetters_9 rfl hl (by decide) rfl (fun ls hl => ?_)
    have loop10 : ∀ (k : Nat) (j : Nat) (s1 : RS) (H : Heap) (locs : List Loc) (ls : Array Slot), j + k = x + 1 → fLet T st x = fLetE (fLetL T k s1) (nI x) → va_P D vwCl (rdW ad cd T s1) H → va_D A (rdW ad cd T s1) → va_S A s.heap H locs → lv_has ls 3 [(2, .int (nI j)), (0, .ref (ad 0)), (1, .int (nI x))] → W p l e (rmD 3) s m ([.ref (ad 0), .int (nI x)] : List Value).toArray below meth c H locs 0 0 Q (F0 m 10 ls []) := by
      intro k
      induction k with
      | zero =>
        intro j s1 H locs ls hj hF hP hD hS hl
        refine lv_iload_n hx hb d_Reader_takeLetters_10 rfl (lv_at hl 0 rfl) ?_
        refine lv_iload_n hx hb d_Reader_takeLetters_11 rfl (lv_at hl 2 rfl) ?_
        refine lv_icmp_gt (tgt := 41) hx hb d_Reader_takeLetters_12 (by decide) (fun c_12 => ?_) (fun c_12 => ?_)
        · skip
          have c_12 : (nI x < nI j) := c_12
          refine lv_aload_n hx hb d_Reader_takeLetters_41 rfl (lv_at hl 1 rfl) ?_
          refine lv_aload_n hx hb d_Reader_takeLetters_42 rfl (lv_at hl 1 rfl) ?_
          refine va_get (D := D) (ci := 1) (v := .int (rPl s1)) (C := "HeadDesk$Reader") (T := F_Reader) (N := 11) hx hb hts a_Reader hown hX.1 hP 0 rfl rfl 6 (by decide) (hts _ m_47) (fun _ h9 => h9) rfl d_Reader_takeLetters_43 ?_
          refine va_put (D := D) (ci := 1) (v := .int (rPl s1)) (ty := .int) (C := "HeadDesk$Reader") (T := F_Reader) (N := 11) hx hb hts a_Reader t_Reader k_Reader n_Reader hown hX.1 hP hD hS 0 rfl rfl 10 (by decide) (hts _ m_67) (fun _ h9 => h9) rfl (by decide +kernel) rfl rfl (Nat.le_of_ble_eq_true rfl) d_Reader_takeLetters_46 (fun H locs hP hD hS => ?_)
          have hP : va_P D vwCl (rdW ad cd T (sWe s1 (rPl s1))) H := hP
          have hD : va_D A (rdW ad cd T (sWe s1 (rPl s1))) := hD
          refine lv_aload_n hx hb d_Reader_takeLetters_49 rfl (lv_at hl 1 rfl) ?_
          refine va_get (D := D) (ci := 1) (v := .int (rPl s1)) (C := "HeadDesk$Reader") (T := F_Reader) (N := 11) hx hb hts a_Reader hown hX.1 hP 0 rfl rfl 10 (by decide) (hts _ m_67) (fun _ h9 => h9) rfl d_Reader_takeLetters_50 ?_
          refine lv_aload_n hx hb d_Reader_takeLetters_53 rfl (lv_at hl 1 rfl) ?_
          refine va_get (D := D) (ci := 1) (v := .int (rWs s1)) (C := "HeadDesk$Reader") (T := F_Reader) (N := 11) hx hb hts a_Reader hown hX.1 hP 0 rfl rfl 9 (by decide) (hts _ m_66) (fun _ h9 => h9) rfl d_Reader_takeLetters_54 ?_
          refine lv_icmp_ne (tgt := 69) hx hb d_Reader_takeLetters_57 (by decide) (fun c_57 => ?_) (fun c_57 => ?_)
          · skip
            have c_57 : ¬ (rPl s1 = rWs s1) := c_57
            refine lv_aload_n hx hb d_Reader_takeLetters_69 rfl (lv_at hl 1 rfl) ?_
            refine va_get (D := D) (ci := 1) (v := .int (rPl s1)) (C := "HeadDesk$Reader") (T := F_Reader) (N := 11) hx hb hts a_Reader hown hX.1 hP 0 rfl rfl 10 (by decide) (hts _ m_67) (fun _ h9 => h9) rfl d_Reader_takeLetters_70 ?_
            refine lv_aload_n hx hb d_Reader_takeLetters_73 rfl (lv_at hl 1 rfl) ?_
            refine va_get (D := D) (ci := 1) (v := .int (rWs s1)) (C := "HeadDesk$Reader") (T := F_Reader) (N := 11) hx hb hts a_Reader hown hX.1 hP 0 rfl rfl 9 (by decide) (hts _ m_66) (fun _ h9 => h9) rfl d_Reader_takeLetters_74 ?_
            refine lv_isub hx hb d_Reader_takeLetters_77 ?_
            refine lv_iload_n hx hb d_Reader_takeLetters_78 rfl (lv_at hl 2 rfl) ?_
            refine lv_icmp_le (tgt := 93) hx hb d_Reader_takeLetters_79 (by decide) (fun c_79 => ?_) (fun c_79 => ?_)
            · skip
              have c_79 : ((rPl s1) - (rWs s1) ≤ nI x) := c_79
              refine lv_iconst (v := 1) hx hb d_Reader_takeLetters_93 (by decide) ?_
              refine lv_goto (tgt := 98) hx hb d_Reader_takeLetters_94 (by decide) ?_
              exact hret H locs (sWe s1 (rPl s1)) true _ _ hP hD hS (pr2 (by first | (rw [hF]; ((try simp only [fLetL]) <;> simp only [fLetL, fLetE, if_pos c_12, if_neg c_57, if_pos c_79, fStop, if_true, if_false, Bool.false_eq_true, ↓reduceIte]); done) | (rw [hF]; ((try simp only [fLetL]) <;> simp only [fLetL, fLetE, if_pos c_12, if_neg c_57, if_pos c_79, fStop, if_true, if_false, Bool.false_eq_true, ↓reduceIte]); with_reducible rfl))) d_Reader_takeLetters_98
            · skip
              have c_79 : ¬ ((rPl s1) - (rWs s1) ≤ nI x) := c_79
              refine lv_aload_n hx hb d_Reader_takeLetters_82 rfl (lv_at hl 1 rfl) ?_
              refine lv_aload_n hx hb d_Reader_takeLetters_83 rfl (lv_at hl 1 rfl) ?_
              refine va_get (D := D) (ci := 1) (v := .int (rWs s1)) (C := "HeadDesk$Reader") (T := F_Reader) (N := 11) hx hb hts a_Reader hown hX.1 hP 0 rfl rfl 9 (by decide) (hts _ m_66) (fun _ h9 => h9) rfl d_Reader_takeLetters_84 ?_
              refine hx_Vz (wr := []) (As := [.int (rWs s1)]) (rest := []) hI (c_Reader_stop hT (sWe s1 (rPl s1)) (rWs s1)) (cw_V (C := "HeadDesk$Reader") 1 hts m_58 m_60 m_61 m_57 m_59 (by decide +kernel) ⟨by decide, by decide⟩) hX hA hP hD hS [0, 1, 2, 3, 4, 5, 6, 7] [] rfl rfl (by decide) (by decide) (by decide) (va_recv hX.1 hP (ci := 1) (q0 := 0) rfl rfl) rfl hl.1 rfl (Nat.le_of_ble_eq_true rfl) d_Reader_takeLetters_87 ⟨Nat.zero_le _, Nat.zero_le _⟩ (fun H locs hP hD hS => ?_)
              obtain ⟨s_87, e_87⟩ : ∃ z : RS, z = sSk (sWe s1 (rPl s1)) (rWs s1) := ⟨_, rfl⟩
              have hP : va_P D vwCl (rdW ad cd T s_87) H := by rw [e_87]; exact hP
              have hD : va_D A (rdW ad cd T s_87) := by rw [e_87]; exact hD
              refine lv_if_eq (tgt := 97) hx hb d_Reader_takeLetters_90 (by decide) (fun c_90 => ?_) (fun c_90 => ?_)
              · skip
                have c_90 : false = false := bI_0 c_90
                refine lv_iconst (v := 0) hx hb d_Reader_takeLetters_97 (by decide) ?_
                exact hret H locs s_87 false _ _ hP hD hS (pr2 (by first | (rw [hF]; ((try simp only [fLetL]) <;> simp only [fLetL, fLetE, if_pos c_12, if_neg c_57, if_neg c_79, ← e_87, fStop, if_true, if_false, Bool.false_eq_true, ↓reduceIte]); done) | (rw [hF]; ((try simp only [fLetL]) <;> simp only [fLetL, fLetE, if_pos c_12, if_neg c_57, if_neg c_79, ← e_87, fStop, if_true, if_false, Bool.false_eq_true, ↓reduceIte]); with_reducible rfl) | (rw [hF]; ((try simp only [fLetL]) <;> simp only [fLetL, fLetE, if_pos c_12, if_neg c_57, if_neg c_79, ← e_87, fStop, if_true, if_false, Bool.false_eq_true, ↓reduceIte]); rw [e_87]))) d_Reader_takeLetters_98
              · skip
                exact absurd rfl c_90
          · skip
            have c_57 : (rPl s1 = rWs s1) := c_57
            refine lv_aload_n hx hb d_Reader_takeLetters_60 rfl (lv_at hl 1 rfl) ?_
            refine lv_aload_n hx hb d_Reader_takeLetters_61 rfl (lv_at hl 1 rfl) ?_
            refine va_get (D := D) (ci := 1) (v := .int (rPl s1)) (C := "HeadDesk$Reader") (T := F_Reader) (N := 11) hx hb hts a_Reader hown hX.1 hP 0 rfl rfl 6 (by decide) (hts _ m_47) (fun _ h9 => h9) rfl d_Reader_takeLetters_62 ?_
            refine hx_Vz (wr := []) (As := [.int (rPl s1)]) (rest := []) hI (c_Reader_stop hT (sWe s1 (rPl s1)) (rPl s1)) (cw_V (C := "HeadDesk$Reader") 1 hts m_58 m_60 m_61 m_57 m_59 (by decide +kernel) ⟨by decide, by decide⟩) hX hA hP hD hS [0, 1, 2, 3, 4, 5, 6, 7] [] rfl rfl (by decide) (by decide) (by decide) (va_recv hX.1 hP (ci := 1) (q0 := 0) rfl rfl) rfl hl.1 rfl (Nat.le_of_ble_eq_true rfl) d_Reader_takeLetters_65 ⟨Nat.zero_le _, Nat.zero_le _⟩ (fun H locs hP hD hS => ?_)
            obtain ⟨s_65, e_65⟩ : ∃ z : RS, z = sSk (sWe s1 (rPl s1)) (rPl s1) := ⟨_, rfl⟩
            have hP : va_P D vwCl (rdW ad cd T s_65) H := by rw [e_65]; exact hP
            have hD : va_D A (rdW ad cd T s_65) := by rw [e_65]; exact hD
            exact hret H locs s_65 false _ _ hP hD hS (pr2 (by first | (rw [hF]; ((try simp only [fLetL]) <;> simp only [fLetL, fLetE, if_pos c_12, if_pos c_57, ← e_65, fStop, if_true, if_false, Bool.false_eq_true, ↓reduceIte]); done) | (rw [hF]; ((try simp only [fLetL]) <;> simp only [fLetL, fLetE, if_pos c_12, if_pos c_57, ← e_65, fStop, if_true, if_false, Bool.false_eq_true, ↓reduceIte]); with_reducible rfl) | (rw [hF]; ((try simp only [fLetL]) <;> simp only [fLetL, fLetE, if_pos c_12, if_pos c_57, ← e_65, fStop, if_true, if_false, Bool.false_eq_true, ↓reduceIte]); rw [e_65]))) d_Reader_takeLetters_68
        · skip
          exact absurd (nI_tyes (N := x) rfl (by omega) (by omega)) c_12
      | succ k ih =>
        intro j s1 H locs ls hj hF hP hD hS hl
        refine lv_iload_n hx hb d_Reader_takeLetters_10 rfl (lv_at hl 0 rfl) ?_
        refine lv_iload_n hx hb d_Reader_takeLetters_11 rfl (lv_at hl 2 rfl) ?_
        refine lv_icmp_gt (tgt := 41) hx hb d_Reader_takeLetters_12 (by decide) (fun c_12 => ?_) (fun c_12 => ?_)
        · skip
          exact absurd c_12 (nI_tno (N := x) rfl (by omega) (by omega))
        · skip
          have c_12 : ¬ (nI x < nI j) := c_12
          refine lv_aload_n hx hb d_Reader_takeLetters_15 rfl (lv_at hl 1 rfl) ?_
          refine hx_Vi (wr := []) (As := []) (rest := []) hI (c_Reader_mark hT s1 ) (cw_V (C := "HeadDesk$Reader") 0 hts m_53 m_55 m_56 m_57 m_54 (by decide +kernel) ⟨by decide, by decide⟩) hX hA hP hD hS [0, 1, 2, 3, 4, 5, 6, 7] [] rfl rfl (by decide) (by decide) (by decide) (va_recv hX.1 hP (ci := 1) (q0 := 0) rfl rfl) rfl hl.1 rfl (Nat.le_of_ble_eq_true rfl) d_Reader_takeLetters_16 ⟨Nat.zero_le _, Nat.zero_le _⟩ (fun H locs hP hD hS => ?_)
          have hP : va_P D vwCl (rdW ad cd T s1) H := hP
          have hD : va_D A (rdW ad cd T s1) := hD
          refine hx_Sz (wr := [(ad 0, .inr (1, [.ref (ad 1), .ref (ad 3), .ref (ad 4), .ref (ad 5), .int (rNm s1), .int (rKd s1), .int (rPl s1), .int (rSk s1), .int (rNb s1), .int (rWs s1), .int (rWe s1)])), (ad 1, .inr (2, [.ref (ad 2), .int (T.2)])), (ad 2, .inl (cd 0, 300, .inl T.1)), (ad 3, .inl (cd 1, 100, .inl (rNs s1))), (ad 4, .inl (cd 2, 100, .inl (rNe s1))), (ad 5, .inr (0, [.ref (ad 6), .ref (ad 7)])), (ad 6, .inl (cd 3, 18, .inl (rVs s1))), (ad 7, .inl (cd 4, 8, .inl (rVr s1)))]) (As := [.int (fMark T s1)]) (rest := []) hI (c_Reader_isLetter (fMark T s1)) (cw_S 1 hts m_68 m_70 m_57 m_69 (by decide +kernel) ⟨by decide, by decide⟩) hX hA hP hD hS [] [0, 1, 2, 3, 4, 5, 6, 7] rfl rfl (by decide) (by decide) (by decide) rfl hl.1 rfl (Nat.le_of_ble_eq_true rfl) d_Reader_takeLetters_19 ⟨Nat.zero_le _, Nat.zero_le _⟩ (fun H locs hP hD hS => ?_)
          have hP : va_P D vwCl (rdW ad cd T s1) H := hP.sub [0, 1, 2, 3, 4, 5, 6, 7] rfl
          have hD : va_D A (rdW ad cd T s1) := hD.sub [0, 1, 2, 3, 4, 5, 6, 7] (by decide) rfl
          refine lv_if_eq (tgt := 41) hx hb d_Reader_takeLetters_22 (by decide) (fun c_22 => ?_) (fun c_22 => ?_)
          · skip
            have c_22 : (isL (fMark T s1)) = false := bI_0 c_22
            refine lv_aload_n hx hb d_Reader_takeLetters_41 rfl (lv_at hl 1 rfl) ?_
            refine lv_aload_n hx hb d_Reader_takeLetters_42 rfl (lv_at hl 1 rfl) ?_
            refine va_get (D := D) (ci := 1) (v := .int (rPl s1)) (C := "HeadDesk$Reader") (T := F_Reader) (N := 11) hx hb hts a_Reader hown hX.1 hP 0 rfl rfl 6 (by decide) (hts _ m_47) (fun _ h9 => h9) rfl d_Reader_takeLetters_43 ?_
            refine va_put (D := D) (ci := 1) (v := .int (rPl s1)) (ty := .int) (C := "HeadDesk$Reader") (T := F_Reader) (N := 11) hx hb hts a_Reader t_Reader k_Reader n_Reader hown hX.1 hP hD hS 0 rfl rfl 10 (by decide) (hts _ m_67) (fun _ h9 => h9) rfl (by decide +kernel) rfl rfl (Nat.le_of_ble_eq_true rfl) d_Reader_takeLetters_46 (fun H locs hP hD hS => ?_)
            have hP : va_P D vwCl (rdW ad cd T (sWe s1 (rPl s1))) H := hP
            have hD : va_D A (rdW ad cd T (sWe s1 (rPl s1))) := hD
            refine lv_aload_n hx hb d_Reader_takeLetters_49 rfl (lv_at hl 1 rfl) ?_
            refine va_get (D := D) (ci := 1) (v := .int (rPl s1)) (C := "HeadDesk$Reader") (T := F_Reader) (N := 11) hx hb hts a_Reader hown hX.1 hP 0 rfl rfl 10 (by decide) (hts _ m_67) (fun _ h9 => h9) rfl d_Reader_takeLetters_50 ?_
            refine lv_aload_n hx hb d_Reader_takeLetters_53 rfl (lv_at hl 1 rfl) ?_
            refine va_get (D := D) (ci := 1) (v := .int (rWs s1)) (C := "HeadDesk$Reader") (T := F_Reader) (N := 11) hx hb hts a_Reader hown hX.1 hP 0 rfl rfl 9 (by decide) (hts _ m_66) (fun _ h9 => h9) rfl d_Reader_takeLetters_54 ?_
            refine lv_icmp_ne (tgt := 69) hx hb d_Reader_takeLetters_57 (by decide) (fun c_57 => ?_) (fun c_57 => ?_)
            · skip
              have c_57 : ¬ (rPl s1 = rWs s1) := c_57
              refine lv_aload_n hx hb d_Reader_takeLetters_69 rfl (lv_at hl 1 rfl) ?_
              refine va_get (D := D) (ci := 1) (v := .int (rPl s1)) (C := "HeadDesk$Reader") (T := F_Reader) (N := 11) hx hb hts a_Reader hown hX.1 hP 0 rfl rfl 10 (by decide) (hts _ m_67) (fun _ h9 => h9) rfl d_Reader_takeLetters_70 ?_
              refine lv_aload_n hx hb d_Reader_takeLetters_73 rfl (lv_at hl 1 rfl) ?_
              refine va_get (D := D) (ci := 1) (v := .int (rWs s1)) (C := "HeadDesk$Reader") (T := F_Reader) (N := 11) hx hb hts a_Reader hown hX.1 hP 0 rfl rfl 9 (by decide) (hts _ m_66) (fun _ h9 => h9) rfl d_Reader_takeLetters_74 ?_
              refine lv_isub hx hb d_Reader_takeLetters_77 ?_
              refine lv_iload_n hx hb d_Reader_takeLetters_78 rfl (lv_at hl 2 rfl) ?_
              refine lv_icmp_le (tgt := 93) hx hb d_Reader_takeLetters_79 (by decide) (fun c_79 => ?_) (fun c_79 => ?_)
              · skip
                have c_79 : ((rPl s1) - (rWs s1) ≤ nI x) := c_79
                refine lv_iconst (v := 1) hx hb d_Reader_takeLetters_93 (by decide) ?_
                refine lv_goto (tgt := 98) hx hb d_Reader_takeLetters_94 (by decide) ?_
                exact hret H locs (sWe s1 (rPl s1)) true _ _ hP hD hS (pr2 (by first | (rw [hF]; ((try simp only [fLetL]) <;> simp only [fLetL, fLetE, if_neg c_12, c_22, if_neg c_57, if_pos c_79, fStop, if_true, if_false, Bool.false_eq_true, ↓reduceIte]); done) | (rw [hF]; ((try simp only [fLetL]) <;> simp only [fLetL, fLetE, if_neg c_12, c_22, if_neg c_57, if_pos c_79, fStop, if_true, if_false, Bool.false_eq_true, ↓reduceIte]); with_reducible rfl))) d_Reader_takeLetters_98
              · skip
                have c_79 : ¬ ((rPl s1) - (rWs s1) ≤ nI x) := c_79
                refine lv_aload_n hx hb d_Reader_takeLetters_82 rfl (lv_at hl 1 rfl) ?_
                refine lv_aload_n hx hb d_Reader_takeLetters_83 rfl (lv_at hl 1 rfl) ?_
                refine va_get (D := D) (ci := 1) (v := .int (rWs s1)) (C := "HeadDesk$Reader") (T := F_Reader) (N := 11) hx hb hts a_Reader hown hX.1 hP 0 rfl rfl 9 (by decide) (hts _ m_66) (fun _ h9 => h9) rfl d_Reader_takeLetters_84 ?_
                refine hx_Vz (wr := []) (As := [.int (rWs s1)]) (rest := []) hI (c_Reader_stop hT (sWe s1 (rPl s1)) (rWs s1)) (cw_V (C := "HeadDesk$Reader") 1 hts m_58 m_60 m_61 m_57 m_59 (by decide +kernel) ⟨by decide, by decide⟩) hX hA hP hD hS [0, 1, 2, 3, 4, 5, 6, 7] [] rfl rfl (by decide) (by decide) (by decide) (va_recv hX.1 hP (ci := 1) (q0 := 0) rfl rfl) rfl hl.1 rfl (Nat.le_of_ble_eq_true rfl) d_Reader_takeLetters_87 ⟨Nat.zero_le _, Nat.zero_le _⟩ (fun H locs hP hD hS => ?_)
                obtain ⟨s_87, e_87⟩ : ∃ z : RS, z = sSk (sWe s1 (rPl s1)) (rWs s1) := ⟨_, rfl⟩
                have hP : va_P D vwCl (rdW ad cd T s_87) H := by rw [e_87]; exact hP
                have hD : va_D A (rdW ad cd T s_87) := by rw [e_87]; exact hD
                refine lv_if_eq (tgt := 97) hx hb d_Reader_takeLetters_90 (by decide) (fun c_90 => ?_) (fun c_90 => ?_)
                · skip
                  have c_90 : false = false := bI_0 c_90
                  refine lv_iconst (v := 0) hx hb d_Reader_takeLetters_97 (by decide) ?_
                  exact hret H locs s_87 false _ _ hP hD hS (pr2 (by first | (rw [hF]; ((try simp only [fLetL]) <;> simp only [fLetL, fLetE, if_neg c_12, c_22, if_neg c_57, if_neg c_79, ← e_87, fStop, if_true, if_false, Bool.false_eq_true, ↓reduceIte]); done) | (rw [hF]; ((try simp only [fLetL]) <;> simp only [fLetL, fLetE, if_neg c_12, c_22, if_neg c_57, if_neg c_79, ← e_87, fStop, if_true, if_false, Bool.false_eq_true, ↓reduceIte]); with_reducible rfl) | (rw [hF]; ((try simp only [fLetL]) <;> simp only [fLetL, fLetE, if_neg c_12, c_22, if_neg c_57, if_neg c_79, ← e_87, fStop, if_true, if_false, Bool.false_eq_true, ↓reduceIte]); rw [e_87]))) d_Reader_takeLetters_98
                · skip
                  exact absurd rfl c_90
            · skip
              have c_57 : (rPl s1 = rWs s1) := c_57
              refine lv_aload_n hx hb d_Reader_takeLetters_60 rfl (lv_at hl 1 rfl) ?_
              refine lv_aload_n hx hb d_Reader_takeLetters_61 rfl (lv_at hl 1 rfl) ?_
              refine va_get (D := D) (ci := 1) (v := .int (rPl s1)) (C := "HeadDesk$Reader") (T := F_Reader) (N := 11) hx hb hts a_Reader hown hX.1 hP 0 rfl rfl 6 (by decide) (hts _ m_47) (fun _ h9 => h9) rfl d_Reader_takeLetters_62 ?_
              refine hx_Vz (wr := []) (As := [.int (rPl s1)]) (rest := []) hI (c_Reader_stop hT (sWe s1 (rPl s1)) (rPl s1)) (cw_V (C := "HeadDesk$Reader") 1 hts m_58 m_60 m_61 m_57 m_59 (by decide +kernel) ⟨by decide, by decide⟩) hX hA hP hD hS [0, 1, 2, 3, 4, 5, 6, 7] [] rfl rfl (by decide) (by decide) (by decide) (va_recv hX.1 hP (ci := 1) (q0 := 0) rfl rfl) rfl hl.1 rfl (Nat.le_of_ble_eq_true rfl) d_Reader_takeLetters_65 ⟨Nat.zero_le _, Nat.zero_le _⟩ (fun H locs hP hD hS => ?_)
              obtain ⟨s_65, e_65⟩ : ∃ z : RS, z = sSk (sWe s1 (rPl s1)) (rPl s1) := ⟨_, rfl⟩
              have hP : va_P D vwCl (rdW ad cd T s_65) H := by rw [e_65]; exact hP
              have hD : va_D A (rdW ad cd T s_65) := by rw [e_65]; exact hD
              exact hret H locs s_65 false _ _ hP hD hS (pr2 (by first | (rw [hF]; ((try simp only [fLetL]) <;> simp only [fLetL, fLetE, if_neg c_12, c_22, if_pos c_57, ← e_65, fStop, if_true, if_false, Bool.false_eq_true, ↓reduceIte]); done) | (rw [hF]; ((try simp only [fLetL]) <;> simp only [fLetL, fLetE, if_neg c_12, c_22, if_pos c_57, ← e_65, fStop, if_true, if_false, Bool.false_eq_true, ↓reduceIte]); with_reducible rfl) | (rw [hF]; ((try simp only [fLetL]) <;> simp only [fLetL, fLetE, if_neg c_12, c_22, if_pos c_57, ← e_65, fStop, if_true, if_false, Bool.false_eq_true, ↓reduceIte]); rw [e_65]))) d_Reader_takeLetters_68
          · skip
            have c_22 : (isL (fMark T s1)) = true := bI_1 c_22
            refine lv_aload_n hx hb d_Reader_takeLetters_25 rfl (lv_at hl 1 rfl) ?_
            refine lv_dup hx hb d_Reader_takeLetters_26 rfl ?_
            refine va_get (D := D) (ci := 1) (v := .int (rPl s1)) (C := "HeadDesk$Reader") (T := F_Reader) (N := 11) hx hb hts a_Reader hown hX.1 hP 0 rfl rfl 6 (by decide) (hts _ m_47) (fun _ h9 => h9) rfl d_Reader_takeLetters_27 ?_
            refine lv_iconst (v := 1) hx hb d_Reader_takeLetters_30 (by decide) ?_
            refine lv_iadd hx hb d_Reader_takeLetters_31 ?_
            refine va_put (D := D) (ci := 1) (v := .int ((rPl s1) + 1)) (ty := .int) (C := "HeadDesk$Reader") (T := F_Reader) (N := 11) hx hb hts a_Reader t_Reader k_Reader n_Reader hown hX.1 hP hD hS 0 rfl rfl 6 (by decide) (hts _ m_47) (fun _ h9 => h9) rfl (by decide +kernel) rfl rfl (Nat.le_of_ble_eq_true rfl) d_Reader_takeLetters_32 (fun H locs hP hD hS => ?_)
            have hP : va_P D vwCl (rdW ad cd T (sPl s1 ((rPl s1) + 1))) H := hP
            have hD : va_D A (rdW ad cd T (sPl s1 ((rPl s1) + 1))) := hD
            refine lv_iinc (v := nI (j + 1)) (lv' := [(2, .int (nI (j + 1))), (0, .ref (ad 0)), (1, .int (nI x))]) hx hb d_Reader_takeLetters_35 hl (k := 0) rfl (by rw [nI_succ]; rfl) (by decide) rfl (fun ls hl => ?_)
            refine lv_goto (tgt := 10) hx hb d_Reader_takeLetters_38 (by decide) ?_
            exact ih (j + 1) (sPl s1 ((rPl s1) + 1)) H locs ls (by omega)  (by first | (rw [hF]; ((try simp only [fLetL]) <;> simp only [fLetL, fLetE, if_neg c_12, c_22, fStop, if_true, if_false, Bool.false_eq_true, ↓reduceIte]); done) | (rw [hF]; ((try simp only [fLetL]) <;> simp only [fLetL, fLetE, if_neg c_12, c_22, fStop, if_true, if_false, Bool.false_eq_true, ↓reduceIte]); with_reducible rfl)) hP hD hS (lv_sub hl [0, 1, 2] rfl)
    exact loop10 (x + 1) 0 (sWs st (rPl st)) H locs ls (by omega) rfl hP hD hS (lv_sub hl [0, 1, 2] rfl)
  rw [hH, hlo] at goal
  exact goal
set_option maxHeartbeats 4000000 in
set_option maxRecDepth 100000 in
theorem c_Reader_readAnything (hT : T.2 ≤ 300) (st : RS)  : hx_Mz l D (tyH cd) adK adV tF (rdW ad cd T) y_Reader_readAnything w_Reader_readAnything (rmD 3) [.ref (ad 0)] st true (fAnyL T 300 st) := by
  refine hx_Mz.of (cc := b_Reader_readAnything) (maxL := 2) (by decide) rfl (Nat.le_of_ble_eq_true rfl) ?_
  intro p e s m below meth c A Q ls hI hX hA hP hD hS hl hret
  obtain ⟨hx, hb, hml, hown, hts⟩ := id hI
  have hts : ∀ w ∈ aw, w.before ([.ref (ad 0)] : List Value).toArray s = true := fun w h => hts w (List.mem_cons_of_mem _ h)
  have hown : s.vm.findClass "HeadDesk$Reader" = some m.cls := hown
  have hI : hx_In p s m ([.ref (ad 0)] : List Value).toArray c b_Reader_readAnything 2 "HeadDesk$Reader" aw := ⟨hx, hb, hml, hown, hts⟩
  have hP : va_P D vwCl (rdW ad cd T st) s.heap := hP
  obtain ⟨H, hH⟩ : ∃ H, H = s.heap := ⟨_, rfl⟩
  obtain ⟨locs, hlo⟩ : ∃ locs : List Loc, locs = [] := ⟨_, rfl⟩
  have hS : va_S A s.heap H locs := by rw [hH, hlo]; exact hS
  have hP : va_P D vwCl (rdW ad cd T st) H := by rw [hH]; exact hP
  have hl : lv_has ls 2 [(0, .ref (ad 0))] := hl
  have goal : W p l e (rmD 3) s m ([.ref (ad 0)] : List Value).toArray below meth c H locs 0 0 Q (F0 m 0 ls []) := by
    refine lv_iconst (v := 0) hx hb d_Reader_readAnything_0 (by decide) ?_
    refine lv_istore_n (lv' := [(1, .int 0), (0, .ref (ad 0))]) hx hb d_Reader_readAnything_1 rfl hl (by decide) rfl (fun ls hl => ?_)
    have loop2 : ∀ (k : Nat) (j : Nat) (s1 : RS) (H : Heap) (locs : List Loc) (ls : Array Slot), j + k = 300 → fAnyL T 300 st = fAnyL T k s1 → va_P D vwCl (rdW ad cd T s1) H → va_D A (rdW ad cd T s1) → va_S A s.heap H locs → lv_has ls 2 [(1, .int (nI j)), (0, .ref (ad 0))] → W p l e (rmD 3) s m ([.ref (ad 0)] : List Value).toArray below meth c H locs 0 0 Q (F0 m 2 ls []) := by
      intro k
      induction k with
      | zero =>
        intro j s1 H locs ls hj hF hP hD hS hl
        refine lv_iload_n hx hb d_Reader_readAnything_2 rfl (lv_at hl 0 rfl) ?_
        refine lv_sipush (v := 300) hx hb d_Reader_readAnything_3 (by decide) ?_
        refine lv_icmp_ge (tgt := 44) hx hb d_Reader_readAnything_6 (by decide) (fun c_6 => ?_) (fun c_6 => ?_)
        · skip
          have c_6 : (300 ≤ nI j) := c_6
          refine lv_iconst (v := 1) hx hb d_Reader_readAnything_44 (by decide) ?_
          exact hret H locs s1 true _ _ hP hD hS ⟨rfl, by first | (rw [hF]; ((try simp only [fAnyL]) <;> simp only [fAnyL, if_pos c_6, fStop, if_true, if_false, Bool.false_eq_true, ↓reduceIte]); done) | (rw [hF]; ((try simp only [fAnyL]) <;> simp only [fAnyL, if_pos c_6, fStop, if_true, if_false, Bool.false_eq_true, ↓reduceIte]); with_reducible rfl)⟩ d_Reader_readAnything_45
        · skip
          exact absurd (nI_gyes (N := 300) rfl (by omega) (by omega)) c_6
      | succ k ih =>
        intro j s1 H locs ls hj hF hP hD hS hl
        refine lv_iload_n hx hb d_Reader_readAnything_2 rfl (lv_at hl 0 rfl) ?_
        refine lv_sipush (v := 300) hx hb d_Reader_readAnything_3 (by decide) ?_
        refine lv_icmp_ge (tgt := 44) hx hb d_Reader_readAnything_6 (by decide) (fun c_6 => ?_) (fun c_6 => ?_)
        · skip
          exact absurd c_6 (nI_gno (N := 300) rfl (by omega) (by omega))
        · skip
          have c_6 : ¬ (300 ≤ nI j) := c_6
          refine lv_aload_n hx hb d_Reader_readAnything_9 rfl (lv_at hl 1 rfl) ?_
          refine hx_Vi (wr := []) (As := []) (rest := []) hI (c_Reader_mark hT s1 ) (cw_V (C := "HeadDesk$Reader") 0 hts m_53 m_55 m_56 m_57 m_54 (by decide +kernel) ⟨by decide, by decide⟩) hX hA hP hD hS [0, 1, 2, 3, 4, 5, 6, 7] [] rfl rfl (by decide) (by decide) (by decide) (va_recv hX.1 hP (ci := 1) (q0 := 0) rfl rfl) rfl hl.1 rfl (Nat.le_of_ble_eq_true rfl) d_Reader_readAnything_10 ⟨Nat.zero_le _, Nat.zero_le _⟩ (fun H locs hP hD hS => ?_)
          have hP : va_P D vwCl (rdW ad cd T s1) H := hP
          have hD : va_D A (rdW ad cd T s1) := hD
          refine lv_iconst (v := (-1)) hx hb d_Reader_readAnything_13 (by decide) ?_
          refine lv_icmp_eq (tgt := 26) hx hb d_Reader_readAnything_14 (by decide) (fun c_14 => ?_) (fun c_14 => ?_)
          · skip
            have c_14 : (fMark T s1 = (-1)) := c_14
            refine lv_iconst (v := 1) hx hb d_Reader_readAnything_26 (by decide) ?_
            exact hret H locs s1 true _ _ hP hD hS ⟨rfl, by first | (rw [hF]; ((try simp only [fAnyL]) <;> simp only [fAnyL, if_neg c_6, if_pos c_14, fStop, if_true, if_false, Bool.false_eq_true, ↓reduceIte]); done) | (rw [hF]; ((try simp only [fAnyL]) <;> simp only [fAnyL, if_neg c_6, if_pos c_14, fStop, if_true, if_false, Bool.false_eq_true, ↓reduceIte]); with_reducible rfl)⟩ d_Reader_readAnything_27
          · skip
            have c_14 : ¬ (fMark T s1 = (-1)) := c_14
            refine lv_aload_n hx hb d_Reader_readAnything_17 rfl (lv_at hl 1 rfl) ?_
            refine hx_Vi (wr := []) (As := []) (rest := []) hI (c_Reader_mark hT s1 ) (cw_V (C := "HeadDesk$Reader") 0 hts m_53 m_55 m_56 m_57 m_54 (by decide +kernel) ⟨by decide, by decide⟩) hX hA hP hD hS [0, 1, 2, 3, 4, 5, 6, 7] [] rfl rfl (by decide) (by decide) (by decide) (va_recv hX.1 hP (ci := 1) (q0 := 0) rfl rfl) rfl hl.1 rfl (Nat.le_of_ble_eq_true rfl) d_Reader_readAnything_18 ⟨Nat.zero_le _, Nat.zero_le _⟩ (fun H locs hP hD hS => ?_)
            have hP : va_P D vwCl (rdW ad cd T s1) H := hP
            have hD : va_D A (rdW ad cd T s1) := hD
            refine lv_bipush (v := 10) hx hb d_Reader_readAnything_21 (by decide) ?_
            refine lv_icmp_ne (tgt := 28) hx hb d_Reader_readAnything_23 (by decide) (fun c_23 => ?_) (fun c_23 => ?_)
            · skip
              have c_23 : ¬ (fMark T s1 = 10) := c_23
              refine lv_aload_n hx hb d_Reader_readAnything_28 rfl (lv_at hl 1 rfl) ?_
              refine lv_dup hx hb d_Reader_readAnything_29 rfl ?_
              refine va_get (D := D) (ci := 1) (v := .int (rPl s1)) (C := "HeadDesk$Reader") (T := F_Reader) (N := 11) hx hb hts a_Reader hown hX.1 hP 0 rfl rfl 6 (by decide) (hts _ m_47) (fun _ h9 => h9) rfl d_Reader_readAnything_30 ?_
              refine lv_iconst (v := 1) hx hb d_Reader_readAnything_33 (by decide) ?_
              refine lv_iadd hx hb d_Reader_readAnything_34 ?_
              refine va_put (D := D) (ci := 1) (v := .int ((rPl s1) + 1)) (ty := .int) (C := "HeadDesk$Reader") (T := F_Reader) (N := 11) hx hb hts a_Reader t_Reader k_Reader n_Reader hown hX.1 hP hD hS 0 rfl rfl 6 (by decide) (hts _ m_47) (fun _ h9 => h9) rfl (by decide +kernel) rfl rfl (Nat.le_of_ble_eq_true rfl) d_Reader_readAnything_35 (fun H locs hP hD hS => ?_)
              have hP : va_P D vwCl (rdW ad cd T (sPl s1 ((rPl s1) + 1))) H := hP
              have hD : va_D A (rdW ad cd T (sPl s1 ((rPl s1) + 1))) := hD
              refine lv_iinc (v := nI (j + 1)) (lv' := [(1, .int (nI (j + 1))), (0, .ref (ad 0))]) hx hb d_Reader_readAnything_38 hl (k := 0) rfl (by rw [nI_succ]; rfl) (by decide) rfl (fun ls hl => ?_)
              refine lv_goto (tgt := 2) hx hb d_Reader_readAnything_41 (by decide) ?_
              exact ih (j + 1) (sPl s1 ((rPl s1) + 1)) H locs ls (by omega)  (by first | (rw [hF]; ((try simp only [fAnyL]) <;> simp only [fAnyL, if_neg c_6, if_neg c_14, if_neg c_23, fStop, if_true, if_false, Bool.false_eq_true, ↓reduceIte]); done) | (rw [hF]; ((try simp only [fAnyL]) <;> simp only [fAnyL, if_neg c_6, if_neg c_14, if_neg c_23, fStop, if_true, if_false, Bool.false_eq_true, ↓reduceIte]); with_reducible rfl)) hP hD hS (lv_sub hl [0, 1] rfl)
            · skip
              have c_23 : (fMark T s1 = 10) := c_23
              refine lv_iconst (v := 1) hx hb d_Reader_readAnything_26 (by decide) ?_
              exact hret H locs s1 true _ _ hP hD hS ⟨rfl, by first | (rw [hF]; ((try simp only [fAnyL]) <;> simp only [fAnyL, if_neg c_6, if_neg c_14, if_pos c_23, fStop, if_true, if_false, Bool.false_eq_true, ↓reduceIte]); done) | (rw [hF]; ((try simp only [fAnyL]) <;> simp only [fAnyL, if_neg c_6, if_neg c_14, if_pos c_23, fStop, if_true, if_false, Bool.false_eq_true, ↓reduceIte]); with_reducible rfl)⟩ d_Reader_readAnything_27
    exact loop2 300 0 st H locs ls (by omega) rfl hP hD hS (lv_sub hl [0, 1] rfl)
  rw [hH, hlo] at goal
  exact goal
end
section
variable {l : Launch} {D : va_G} {ad : Nat → Nat} {cd : Nat → ClassId} {adK adV : Nat → Nat} {tF : Nat} {T : TX} {tys : List (ClassId × FieldType)}

set_option maxHeartbeats 4000000 in
set_option maxRecDepth 100000 in
theorem c_Reader_isWordFrom (hT : T.2 ≤ 300) (st : RS) (x : Int32) (z : Int32) : hx_Mz l D (tyH cd) adK adV tF (rdW ad cd T) y_Reader_isWordFrom w_Reader_isWordFrom (rmD 2) [.ref (ad 0), .int x, .int z] st (fIsF T st x z) st := by
  refine hx_Mz.of (cc := b_Reader_isWordFrom) (maxL := 4) (by decide) rfl (Nat.le_of_ble_eq_true rfl) ?_
  intro p e s m below meth c A Q ls hI hX hA hP hD hS hl hret
  obtain ⟨hx, hb, hml, hown, hts⟩ := id hI
  have hts : ∀ w ∈ aw, w.before ([.ref (ad 0), .int x, .int z] : List Value).toArray s = true := fun w h => hts w (List.mem_cons_of_mem _ h)
  have hown : s.vm.findClass "HeadDesk$Reader" = some m.cls := hown
  have hI : hx_In p s m ([.ref (ad 0), .int x, .int z] : List Value).toArray c b_Reader_isWordFrom 4 "HeadDesk$Reader" aw := ⟨hx, hb, hml, hown, hts⟩
  have hP : va_P D vwCl (rdW ad cd T st) s.heap := hP
  obtain ⟨H, hH⟩ : ∃ H, H = s.heap := ⟨_, rfl⟩
  obtain ⟨locs, hlo⟩ : ∃ locs : List Loc, locs = [] := ⟨_, rfl⟩
  have hS : va_S A s.heap H locs := by rw [hH, hlo]; exact hS
  have hP : va_P D vwCl (rdW ad cd T st) H := by rw [hH]; exact hP
  have hl : lv_has ls 4 [(0, .ref (ad 0)), (1, .int x), (2, .int z)] := hl
  have goal : W p l e (rmD 2) s m ([.ref (ad 0), .int x, .int z] : List Value).toArray below meth c H locs 0 0 Q (F0 m 0 ls []) := by
    refine lv_aload_n hx hb d_Reader_isWordFrom_0 rfl (lv_at hl 0 rfl) ?_
    refine va_get (D := D) (ci := 1) (v := .int (rWe st)) (C := "HeadDesk$Reader") (T := F_Reader) (N := 11) hx hb hts a_Reader hown hX.1 hP 0 rfl rfl 10 (by decide) (hts _ m_67) (fun _ h9 => h9) rfl d_Reader_isWordFrom_1 ?_
    refine lv_aload_n hx hb d_Reader_isWordFrom_4 rfl (lv_at hl 0 rfl) ?_
    refine va_get (D := D) (ci := 1) (v := .int (rWs st)) (C := "HeadDesk$Reader") (T := F_Reader) (N := 11) hx hb hts a_Reader hown hX.1 hP 0 rfl rfl 9 (by decide) (hts _ m_66) (fun _ h9 => h9) rfl d_Reader_isWordFrom_5 ?_
    refine lv_isub hx hb d_Reader_isWordFrom_8 ?_
    refine lv_iload_n hx hb d_Reader_isWordFrom_9 rfl (lv_at hl 2 rfl) ?_
    refine lv_iload_n hx hb d_Reader_isWordFrom_10 rfl (lv_at hl 1 rfl) ?_
    refine lv_isub hx hb d_Reader_isWordFrom_11 ?_
    refine lv_icmp_eq (tgt := 17) hx hb d_Reader_isWordFrom_12 (by decide) (fun c_12 => ?_) (fun c_12 => ?_)
    · skip
      have c_12 : ((rWe st) - (rWs st) = z - x) := c_12
      refine lv_iconst (v := 0) hx hb d_Reader_isWordFrom_17 (by decide) ?_
      refine lv_istore_n (lv' := [(3, .int 0), (0, .ref (ad 0)), (1, .int x), (2, .int z)]) hx hb d_Reader_isWordFrom_18 rfl hl (by decide) rfl (fun ls hl => ?_)
      have loop19 : ∀ (k : Nat) (j : Nat) (H : Heap) (locs : List Loc) (ls : Array Slot), j + k = (z - x).toNatClampNeg → fIsF T st x z = eqL T (rWs st) x k j → va_P D vwCl (rdW ad cd T st) H → va_D A (rdW ad cd T st) → va_S A s.heap H locs → lv_has ls 4 [(3, .int (nI j)), (0, .ref (ad 0)), (1, .int x), (2, .int z)] → W p l e (rmD 2) s m ([.ref (ad 0), .int x, .int z] : List Value).toArray below meth c H locs 0 0 Q (F0 m 19 ls []) := by
        intro k
        induction k with
        | zero =>
          intro j H locs ls hj hF hP hD hS hl
          refine lv_iload_n hx hb d_Reader_isWordFrom_19 rfl (lv_at hl 0 rfl) ?_
          refine lv_iload_n hx hb d_Reader_isWordFrom_20 rfl (lv_at hl 3 rfl) ?_
          refine lv_iload_n hx hb d_Reader_isWordFrom_21 rfl (lv_at hl 2 rfl) ?_
          refine lv_isub hx hb d_Reader_isWordFrom_22 ?_
          refine lv_icmp_ge (tgt := 60) hx hb d_Reader_isWordFrom_23 (by decide) (fun c_23 => ?_) (fun c_23 => ?_)
          · skip
            have c_23 : (z - x ≤ nI j) := c_23
            refine lv_iconst (v := 1) hx hb d_Reader_isWordFrom_60 (by decide) ?_
            exact hret H locs st true _ _ hP hD hS ⟨(by first | (rw [hF]; ((try simp only [eqL]) <;> simp only [eqL, if_pos c_23, fStop, if_true, if_false, Bool.false_eq_true, ↓reduceIte]); done) | (rw [hF]; ((try simp only [eqL]) <;> simp only [eqL, if_pos c_23, fStop, if_true, if_false, Bool.false_eq_true, ↓reduceIte]); with_reducible rfl)), rfl⟩ d_Reader_isWordFrom_61
          · skip
            exact absurd (nI_cyes (by omega) (by have := cl_le (z - x); omega)) c_23
        | succ k ih =>
          intro j H locs ls hj hF hP hD hS hl
          refine lv_iload_n hx hb d_Reader_isWordFrom_19 rfl (lv_at hl 0 rfl) ?_
          refine lv_iload_n hx hb d_Reader_isWordFrom_20 rfl (lv_at hl 3 rfl) ?_
          refine lv_iload_n hx hb d_Reader_isWordFrom_21 rfl (lv_at hl 2 rfl) ?_
          refine lv_isub hx hb d_Reader_isWordFrom_22 ?_
          refine lv_icmp_ge (tgt := 60) hx hb d_Reader_isWordFrom_23 (by decide) (fun c_23 => ?_) (fun c_23 => ?_)
          · skip
            exact absurd c_23 (nI_cno (by omega))
          · skip
            have c_23 : ¬ (z - x ≤ nI j) := c_23
            refine lv_aload_n hx hb d_Reader_isWordFrom_26 rfl (lv_at hl 1 rfl) ?_
            refine va_get (D := D) (ci := 1) (v := .ref (ad 1)) (C := "HeadDesk$Reader") (T := F_Reader) (N := 11) hx hb hts a_Reader hown hX.1 hP 0 rfl rfl 0 (by decide) (hts _ m_46) (fun _ h9 => h9) rfl d_Reader_isWordFrom_27 ?_
            refine lv_aload_n hx hb d_Reader_isWordFrom_30 rfl (lv_at hl 1 rfl) ?_
            refine va_get (D := D) (ci := 1) (v := .int (rWs st)) (C := "HeadDesk$Reader") (T := F_Reader) (N := 11) hx hb hts a_Reader hown hX.1 hP 0 rfl rfl 9 (by decide) (hts _ m_66) (fun _ h9 => h9) rfl d_Reader_isWordFrom_31 ?_
            refine lv_iload_n hx hb d_Reader_isWordFrom_34 rfl (lv_at hl 0 rfl) ?_
            refine lv_iadd hx hb d_Reader_isWordFrom_35 ?_
            refine hx_Vi (wr := [(ad 0, .inr (1, [.ref (ad 1), .ref (ad 3), .ref (ad 4), .ref (ad 5), .int (rNm st), .int (rKd st), .int (rPl st), .int (rSk st), .int (rNb st), .int (rWs st), .int (rWe st)])), (ad 3, .inl (cd 1, 100, .inl (rNs st))), (ad 4, .inl (cd 2, 100, .inl (rNe st))), (ad 5, .inr (0, [.ref (ad 6), .ref (ad 7)])), (ad 6, .inl (cd 3, 18, .inl (rVs st))), (ad 7, .inl (cd 4, 8, .inl (rVr st)))]) (As := [.int ((rWs st) + (nI j))]) (rest := []) hI (c_Tape_markAt hT ((rWs st) + (nI j))) (cw_V (C := "HeadDesk$Tape") 1 hts m_48 m_50 m_51 m_30 m_49 (by decide +kernel) ⟨by decide, by decide⟩) hX hA hP hD hS [1, 2] [0, 3, 4, 5, 6, 7] rfl rfl (by decide) (by decide) (by decide) (va_recv hX.1 hP (ci := 2) (q0 := 1) rfl rfl) rfl hl.1 rfl (Nat.le_of_ble_eq_true rfl) d_Reader_isWordFrom_36 ⟨Nat.zero_le _, Nat.zero_le _⟩ (fun H locs hP hD hS => ?_)
            have hP : va_P D vwCl (rdW ad cd T st) H := hP.sub [0, 6, 7, 1, 2, 3, 4, 5] rfl
            have hD : va_D A (rdW ad cd T st) := hD.sub [0, 6, 7, 1, 2, 3, 4, 5] (by decide) rfl
            refine lv_aload_n hx hb d_Reader_isWordFrom_39 rfl (lv_at hl 1 rfl) ?_
            refine va_get (D := D) (ci := 1) (v := .ref (ad 1)) (C := "HeadDesk$Reader") (T := F_Reader) (N := 11) hx hb hts a_Reader hown hX.1 hP 0 rfl rfl 0 (by decide) (hts _ m_46) (fun _ h9 => h9) rfl d_Reader_isWordFrom_40 ?_
            refine lv_iload_n hx hb d_Reader_isWordFrom_43 rfl (lv_at hl 2 rfl) ?_
            refine lv_iload_n hx hb d_Reader_isWordFrom_44 rfl (lv_at hl 0 rfl) ?_
            refine lv_iadd hx hb d_Reader_isWordFrom_45 ?_
            refine hx_Vi (wr := [(ad 0, .inr (1, [.ref (ad 1), .ref (ad 3), .ref (ad 4), .ref (ad 5), .int (rNm st), .int (rKd st), .int (rPl st), .int (rSk st), .int (rNb st), .int (rWs st), .int (rWe st)])), (ad 3, .inl (cd 1, 100, .inl (rNs st))), (ad 4, .inl (cd 2, 100, .inl (rNe st))), (ad 5, .inr (0, [.ref (ad 6), .ref (ad 7)])), (ad 6, .inl (cd 3, 18, .inl (rVs st))), (ad 7, .inl (cd 4, 8, .inl (rVr st)))]) (As := [.int (x + (nI j))]) (rest := [.int (mAt T ((rWs st) + (nI j)))]) hI (c_Tape_markAt hT (x + (nI j))) (cw_V (C := "HeadDesk$Tape") 1 hts m_48 m_50 m_51 m_30 m_49 (by decide +kernel) ⟨by decide, by decide⟩) hX hA hP hD hS [1, 2] [0, 3, 4, 5, 6, 7] rfl rfl (by decide) (by decide) (by decide) (va_recv hX.1 hP (ci := 2) (q0 := 1) rfl rfl) rfl hl.1 rfl (Nat.le_of_ble_eq_true rfl) d_Reader_isWordFrom_46 ⟨Nat.zero_le _, Nat.zero_le _⟩ (fun H locs hP hD hS => ?_)
            have hP : va_P D vwCl (rdW ad cd T st) H := hP.sub [0, 6, 7, 1, 2, 3, 4, 5] rfl
            have hD : va_D A (rdW ad cd T st) := hD.sub [0, 6, 7, 1, 2, 3, 4, 5] (by decide) rfl
            refine lv_icmp_eq (tgt := 54) hx hb d_Reader_isWordFrom_49 (by decide) (fun c_49 => ?_) (fun c_49 => ?_)
            · skip
              have c_49 : (mAt T ((rWs st) + (nI j)) = mAt T (x + (nI j))) := c_49
              refine lv_iinc (v := nI (j + 1)) (lv' := [(3, .int (nI (j + 1))), (0, .ref (ad 0)), (1, .int x), (2, .int z)]) hx hb d_Reader_isWordFrom_54 hl (k := 0) rfl (by rw [nI_succ]; rfl) (by decide) rfl (fun ls hl => ?_)
              refine lv_goto (tgt := 19) hx hb d_Reader_isWordFrom_57 (by decide) ?_
              exact ih (j + 1)  H locs ls (by omega)  (by first | (rw [hF]; ((try simp only [eqL]) <;> simp only [eqL, if_neg c_23, if_pos c_49, fStop, if_true, if_false, Bool.false_eq_true, ↓reduceIte]); done) | (rw [hF]; ((try simp only [eqL]) <;> simp only [eqL, if_neg c_23, if_pos c_49, fStop, if_true, if_false, Bool.false_eq_true, ↓reduceIte]); with_reducible rfl)) hP hD hS (lv_sub hl [0, 1, 2, 3] rfl)
            · skip
              have c_49 : ¬ (mAt T ((rWs st) + (nI j)) = mAt T (x + (nI j))) := c_49
              refine lv_iconst (v := 0) hx hb d_Reader_isWordFrom_52 (by decide) ?_
              exact hret H locs st false _ _ hP hD hS ⟨(by first | (rw [hF]; ((try simp only [eqL]) <;> simp only [eqL, if_neg c_23, if_neg c_49, fStop, if_true, if_false, Bool.false_eq_true, ↓reduceIte]); done) | (rw [hF]; ((try simp only [eqL]) <;> simp only [eqL, if_neg c_23, if_neg c_49, fStop, if_true, if_false, Bool.false_eq_true, ↓reduceIte]); with_reducible rfl)), rfl⟩ d_Reader_isWordFrom_53
      exact loop19 ((z - x).toNatClampNeg) 0  H locs ls (by omega) (by simp only [fIsF, if_pos c_12]) hP hD hS (lv_sub hl [0, 1, 2, 3] rfl)
    · skip
      have c_12 : ¬ ((rWe st) - (rWs st) = z - x) := c_12
      refine lv_iconst (v := 0) hx hb d_Reader_isWordFrom_15 (by decide) ?_
      exact hret H locs st false _ _ hP hD hS ⟨(by first | (simp only [fIsF, if_neg c_12, fStop, if_true, if_false, Bool.false_eq_true, ↓reduceIte]; done) | (simp only [fIsF, if_neg c_12, fStop, if_true, if_false, Bool.false_eq_true, ↓reduceIte]; with_reducible rfl)), rfl⟩ d_Reader_isWordFrom_16
  rw [hH, hlo] at goal
  exact goal
set_option maxHeartbeats 4000000 in
set_option maxRecDepth 100000 in
theorem c_Reader_wasThere (hT : T.2 ≤ 300) (st : RS)  : hx_Mz l D (tyH cd) adK adV tF (rdW ad cd T) y_Reader_wasThere w_Reader_wasThere (rmD 3) [.ref (ad 0)] st (fWas T st) st := by
  refine hx_Mz.of (cc := b_Reader_wasThere) (maxL := 2) (by decide) rfl (Nat.le_of_ble_eq_true rfl) ?_
  intro p e s m below meth c A Q ls hI hX hA hP hD hS hl hret
  obtain ⟨hx, hb, hml, hown, hts⟩ := id hI
  have hts : ∀ w ∈ aw, w.before ([.ref (ad 0)] : List Value).toArray s = true := fun w h => hts w (List.mem_cons_of_mem _ h)
  have hown : s.vm.findClass "HeadDesk$Reader" = some m.cls := hown
  have hI : hx_In p s m ([.ref (ad 0)] : List Value).toArray c b_Reader_wasThere 2 "HeadDesk$Reader" aw := ⟨hx, hb, hml, hown, hts⟩
  have hP : va_P D vwCl (rdW ad cd T st) s.heap := hP
  obtain ⟨H, hH⟩ : ∃ H, H = s.heap := ⟨_, rfl⟩
  obtain ⟨locs, hlo⟩ : ∃ locs : List Loc, locs = [] := ⟨_, rfl⟩
  have hS : va_S A s.heap H locs := by rw [hH, hlo]; exact hS
  have hP : va_P D vwCl (rdW ad cd T st) H := by rw [hH]; exact hP
  have hl : lv_has ls 2 [(0, .ref (ad 0))] := hl
  have goal : W p l e (rmD 3) s m ([.ref (ad 0)] : List Value).toArray below meth c H locs 0 0 Q (F0 m 0 ls []) := by
    refine lv_iconst (v := 0) hx hb d_Reader_wasThere_0 (by decide) ?_
    refine lv_istore_n (lv' := [(1, .int 0), (0, .ref (ad 0))]) hx hb d_Reader_wasThere_1 rfl hl (by decide) rfl (fun ls hl => ?_)
    have loop2 : ∀ (k : Nat) (j : Nat) (H : Heap) (locs : List Loc) (ls : Array Slot), j + k = 100 → fWas T st = wasL T st k j → va_P D vwCl (rdW ad cd T st) H → va_D A (rdW ad cd T st) → va_S A s.heap H locs → lv_has ls 2 [(1, .int (nI j)), (0, .ref (ad 0))] → W p l e (rmD 3) s m ([.ref (ad 0)] : List Value).toArray below meth c H locs 0 0 Q (F0 m 2 ls []) := by
      intro k
      induction k with
      | zero =>
        intro j H locs ls hj hF hP hD hS hl
        refine lv_iload_n hx hb d_Reader_wasThere_2 rfl (lv_at hl 0 rfl) ?_
        refine lv_aload_n hx hb d_Reader_wasThere_3 rfl (lv_at hl 1 rfl) ?_
        refine va_get (D := D) (ci := 1) (v := .int (rNm st)) (C := "HeadDesk$Reader") (T := F_Reader) (N := 11) hx hb hts a_Reader hown hX.1 hP 0 rfl rfl 4 (by decide) (hts _ m_71) (fun _ h9 => h9) rfl d_Reader_wasThere_4 ?_
        refine lv_icmp_ge (tgt := 43) hx hb d_Reader_wasThere_7 (by decide) (fun c_7 => ?_) (fun c_7 => ?_)
        · skip
          have c_7 : (rNm st ≤ nI j) := c_7
          refine lv_iconst (v := 0) hx hb d_Reader_wasThere_43 (by decide) ?_
          exact hret H locs st false _ _ hP hD hS ⟨(by first | (rw [hF]; ((try simp only [wasL]) <;> simp only [wasL, if_pos c_7, fStop, if_true, if_false, Bool.false_eq_true, ↓reduceIte]); done) | (rw [hF]; ((try simp only [wasL]) <;> simp only [wasL, if_pos c_7, fStop, if_true, if_false, Bool.false_eq_true, ↓reduceIte]); with_reducible rfl)), rfl⟩ d_Reader_wasThere_44
        · skip
          have c_7 : ¬ (rNm st ≤ nI j) := c_7
          refine lv_iload_n hx hb d_Reader_wasThere_10 rfl (lv_at hl 0 rfl) ?_
          refine lv_bipush (v := 100) hx hb d_Reader_wasThere_11 (by decide) ?_
          refine lv_icmp_ge (tgt := 43) hx hb d_Reader_wasThere_13 (by decide) (fun c_13 => ?_) (fun c_13 => ?_)
          · skip
            have c_13 : (100 ≤ nI j) := c_13
            refine lv_iconst (v := 0) hx hb d_Reader_wasThere_43 (by decide) ?_
            exact hret H locs st false _ _ hP hD hS ⟨(by first | (rw [hF]; ((try simp only [wasL]) <;> simp only [wasL, if_neg c_7, if_pos c_13, fStop, if_true, if_false, Bool.false_eq_true, ↓reduceIte]); done) | (rw [hF]; ((try simp only [wasL]) <;> simp only [wasL, if_neg c_7, if_pos c_13, fStop, if_true, if_false, Bool.false_eq_true, ↓reduceIte]); with_reducible rfl)), rfl⟩ d_Reader_wasThere_44
          · skip
            exact absurd (nI_gyes (N := 100) rfl (by omega) (by omega)) c_13
      | succ k ih =>
        intro j H locs ls hj hF hP hD hS hl
        refine lv_iload_n hx hb d_Reader_wasThere_2 rfl (lv_at hl 0 rfl) ?_
        refine lv_aload_n hx hb d_Reader_wasThere_3 rfl (lv_at hl 1 rfl) ?_
        refine va_get (D := D) (ci := 1) (v := .int (rNm st)) (C := "HeadDesk$Reader") (T := F_Reader) (N := 11) hx hb hts a_Reader hown hX.1 hP 0 rfl rfl 4 (by decide) (hts _ m_71) (fun _ h9 => h9) rfl d_Reader_wasThere_4 ?_
        refine lv_icmp_ge (tgt := 43) hx hb d_Reader_wasThere_7 (by decide) (fun c_7 => ?_) (fun c_7 => ?_)
        · skip
          have c_7 : (rNm st ≤ nI j) := c_7
          refine lv_iconst (v := 0) hx hb d_Reader_wasThere_43 (by decide) ?_
          exact hret H locs st false _ _ hP hD hS ⟨(by first | (rw [hF]; ((try simp only [wasL]) <;> simp only [wasL, if_pos c_7, fStop, if_true, if_false, Bool.false_eq_true, ↓reduceIte]); done) | (rw [hF]; ((try simp only [wasL]) <;> simp only [wasL, if_pos c_7, fStop, if_true, if_false, Bool.false_eq_true, ↓reduceIte]); with_reducible rfl)), rfl⟩ d_Reader_wasThere_44
        · skip
          have c_7 : ¬ (rNm st ≤ nI j) := c_7
          refine lv_iload_n hx hb d_Reader_wasThere_10 rfl (lv_at hl 0 rfl) ?_
          refine lv_bipush (v := 100) hx hb d_Reader_wasThere_11 (by decide) ?_
          refine lv_icmp_ge (tgt := 43) hx hb d_Reader_wasThere_13 (by decide) (fun c_13 => ?_) (fun c_13 => ?_)
          · skip
            exact absurd c_13 (nI_gno (N := 100) rfl (by omega) (by omega))
          · skip
            have c_13 : ¬ (100 ≤ nI j) := c_13
            refine lv_aload_n hx hb d_Reader_wasThere_16 rfl (lv_at hl 1 rfl) ?_
            refine lv_aload_n hx hb d_Reader_wasThere_17 rfl (lv_at hl 1 rfl) ?_
            refine va_get (D := D) (ci := 1) (v := .ref (ad 3)) (C := "HeadDesk$Reader") (T := F_Reader) (N := 11) hx hb hts a_Reader hown hX.1 hP 0 rfl rfl 1 (by decide) (hts _ m_72) (fun _ h9 => h9) rfl d_Reader_wasThere_18 ?_
            refine lv_iload_n hx hb d_Reader_wasThere_21 rfl (lv_at hl 0 rfl) ?_
            refine va_iald hx hb hX.1 hP 3 1 rfl rfl (vp_in_nI (by omega) (by decide)) d_Reader_wasThere_22 ?_
            refine hx_top (v := (rNs st) j) (by first | rfl | (rw [nI_clamp (by omega)])) ?_
            refine lv_aload_n hx hb d_Reader_wasThere_23 rfl (lv_at hl 1 rfl) ?_
            refine va_get (D := D) (ci := 1) (v := .ref (ad 4)) (C := "HeadDesk$Reader") (T := F_Reader) (N := 11) hx hb hts a_Reader hown hX.1 hP 0 rfl rfl 2 (by decide) (hts _ m_73) (fun _ h9 => h9) rfl d_Reader_wasThere_24 ?_
            refine lv_iload_n hx hb d_Reader_wasThere_27 rfl (lv_at hl 0 rfl) ?_
            refine va_iald hx hb hX.1 hP 4 2 rfl rfl (vp_in_nI (by omega) (by decide)) d_Reader_wasThere_28 ?_
            refine hx_top (v := (rNe st) j) (by first | rfl | (rw [nI_clamp (by omega)])) ?_
            refine hx_Vz (wr := []) (As := [.int ((rNs st) j), .int ((rNe st) j)]) (rest := []) hI (c_Reader_isWordFrom hT st ((rNs st) j) ((rNe st) j)) (cw_V (C := "HeadDesk$Reader") 2 hts m_74 m_76 m_77 m_57 m_75 (by decide +kernel) ⟨by decide, by decide⟩) hX hA hP hD hS [0, 1, 2, 3, 4, 5, 6, 7] [] rfl rfl (by decide) (by decide) (by decide) (va_recv hX.1 hP (ci := 1) (q0 := 0) rfl rfl) rfl hl.1 rfl (Nat.le_of_ble_eq_true rfl) d_Reader_wasThere_29 ⟨Nat.zero_le _, Nat.zero_le _⟩ (fun H locs hP hD hS => ?_)
            have hP : va_P D vwCl (rdW ad cd T st) H := hP
            have hD : va_D A (rdW ad cd T st) := hD
            refine lv_if_eq (tgt := 37) hx hb d_Reader_wasThere_32 (by decide) (fun c_32 => ?_) (fun c_32 => ?_)
            · skip
              have c_32 : (fIsF T st ((rNs st) j) ((rNe st) j)) = false := bI_0 c_32
              refine lv_iinc (v := nI (j + 1)) (lv' := [(1, .int (nI (j + 1))), (0, .ref (ad 0))]) hx hb d_Reader_wasThere_37 hl (k := 0) rfl (by rw [nI_succ]; rfl) (by decide) rfl (fun ls hl => ?_)
              refine lv_goto (tgt := 2) hx hb d_Reader_wasThere_40 (by decide) ?_
              exact ih (j + 1)  H locs ls (by omega)  (by first | (rw [hF]; ((try simp only [wasL]) <;> simp only [wasL, if_neg c_7, if_neg c_13, c_32, fStop, if_true, if_false, Bool.false_eq_true, ↓reduceIte]); done) | (rw [hF]; ((try simp only [wasL]) <;> simp only [wasL, if_neg c_7, if_neg c_13, c_32, fStop, if_true, if_false, Bool.false_eq_true, ↓reduceIte]); with_reducible rfl)) hP hD hS (lv_sub hl [0, 1] rfl)
            · skip
              have c_32 : (fIsF T st ((rNs st) j) ((rNe st) j)) = true := bI_1 c_32
              refine lv_iconst (v := 1) hx hb d_Reader_wasThere_35 (by decide) ?_
              exact hret H locs st true _ _ hP hD hS ⟨(by first | (rw [hF]; ((try simp only [wasL]) <;> simp only [wasL, if_neg c_7, if_neg c_13, c_32, fStop, if_true, if_false, Bool.false_eq_true, ↓reduceIte]); done) | (rw [hF]; ((try simp only [wasL]) <;> simp only [wasL, if_neg c_7, if_neg c_13, c_32, fStop, if_true, if_false, Bool.false_eq_true, ↓reduceIte]); with_reducible rfl)), rfl⟩ d_Reader_wasThere_36
    exact loop2 100 0  H locs ls (by omega) rfl hP hD hS (lv_sub hl [0, 1] rfl)
  rw [hH, hlo] at goal
  exact goal
set_option maxHeartbeats 4000000 in
set_option maxRecDepth 100000 in
theorem c_Reader_takeAll (hT : T.2 ≤ 300) (st : RS) {i : Nat} (hi : i < nJS) : hx_Mz l D (tyH cd) adK adV tF (rdW ad cd T) y_Reader_takeAll w_Reader_takeAll (rmD 5) [.ref (ad 0), .ref (adK i)] st ((fAll T (sw i) st).1) ((fAll T (sw i) st).2) := by
  refine hx_Mz.of (cc := b_Reader_takeAll) (maxL := 3) (by decide) rfl (Nat.le_of_ble_eq_true rfl) ?_
  intro p e s m below meth c A Q ls hI hX hA hP hD hS hl hret
  obtain ⟨hx, hb, hml, hown, hts⟩ := id hI
  have hts : ∀ w ∈ aw, w.before ([.ref (ad 0), .ref (adK i)] : List Value).toArray s = true := fun w h => hts w (List.mem_cons_of_mem _ h)
  have hown : s.vm.findClass "HeadDesk$Reader" = some m.cls := hown
  have hI : hx_In p s m ([.ref (ad 0), .ref (adK i)] : List Value).toArray c b_Reader_takeAll 3 "HeadDesk$Reader" aw := ⟨hx, hb, hml, hown, hts⟩
  have hP : va_P D vwCl (rdW ad cd T st) s.heap := hP
  obtain ⟨H, hH⟩ : ∃ H, H = s.heap := ⟨_, rfl⟩
  obtain ⟨locs, hlo⟩ : ∃ locs : List Loc, locs = [] := ⟨_, rfl⟩
  have hS : va_S A s.heap H locs := by rw [hH, hlo]; exact hS
  have hP : va_P D vwCl (rdW ad cd T st) H := by rw [hH]; exact hP
  have hl : lv_has ls 3 [(0, .ref (ad 0)), (1, .ref (adK i))] := hl
  have goal : W p l e (rmD 5) s m ([.ref (ad 0), .ref (adK i)] : List Value).toArray below meth c H locs 0 0 Q (F0 m 0 ls []) := by
    refine lv_iconst (v := 0) hx hb d_Reader_takeAll_0 (by decide) ?_
    refine lv_istore_n (lv' := [(2, .int 0), (0, .ref (ad 0)), (1, .ref (adK i))]) hx hb d_Reader_takeAll_1 rfl hl (by decide) rfl (fun ls hl => ?_)
    have loop2 : ∀ (k : Nat) (j : Nat) (s1 : RS) (H : Heap) (locs : List Loc) (ls : Array Slot), j + k = (sw i).length → fAll T (sw i) st = fAll T ((sw i).drop j) s1 → va_P D vwCl (rdW ad cd T s1) H → va_D A (rdW ad cd T s1) → va_S A s.heap H locs → lv_has ls 3 [(2, .int (nI j)), (0, .ref (ad 0)), (1, .ref (adK i))] → W p l e (rmD 5) s m ([.ref (ad 0), .ref (adK i)] : List Value).toArray below meth c H locs 0 0 Q (F0 m 2 ls []) := by
      intro k
      induction k with
      | zero =>
        intro j s1 H locs ls hj hF hP hD hS hl
        have hlen := sw_len hi
        have ez : (sw i).drop j = [] := sw_nil (by omega)
        refine lv_iload_n hx hb d_Reader_takeAll_2 rfl (lv_at hl 0 rfl) ?_
        refine lv_aload_n hx hb d_Reader_takeAll_3 rfl (lv_at hl 2 rfl) ?_
        refine hx_Vi (wr := [(ad 0, .inr (1, [.ref (ad 1), .ref (ad 3), .ref (ad 4), .ref (ad 5), .int (rNm s1), .int (rKd s1), .int (rPl s1), .int (rSk s1), .int (rNb s1), .int (rWs s1), .int (rWe s1)])), (ad 1, .inr (2, [.ref (ad 2), .int (T.2)])), (ad 2, .inl (cd 0, 300, .inl T.1)), (ad 3, .inl (cd 1, 100, .inl (rNs s1))), (ad 4, .inl (cd 2, 100, .inl (rNe s1))), (ad 5, .inr (0, [.ref (ad 6), .ref (ad 7)])), (ad 6, .inl (cd 3, 18, .inl (rVs s1))), (ad 7, .inl (cd 4, 8, .inl (rVr s1)))]) (As := []) (rest := [.int (nI j)]) hI (c_String_length hi) (cw_V (C := "java/lang/String") 0 hts m_78 m_80 m_81 m_9 m_79 (by decide +kernel) ⟨by decide, by decide⟩) hX hA hP hD hS [] [0, 1, 2, 3, 4, 5, 6, 7] rfl rfl (by decide) (by decide) (by decide) (va_Orecv (hX.2.1 _ hi).1 hS) rfl hl.1 rfl (Nat.le_of_ble_eq_true rfl) d_Reader_takeAll_4 ⟨Nat.zero_le _, Nat.zero_le _⟩ (fun H locs hP hD hS => ?_)
        have hP : va_P D vwCl (rdW ad cd T s1) H := hP.sub [0, 1, 2, 3, 4, 5, 6, 7] rfl
        have hD : va_D A (rdW ad cd T s1) := hD.sub [0, 1, 2, 3, 4, 5, 6, 7] (by decide) rfl
        refine lv_icmp_ge (tgt := 47) hx hb d_Reader_takeAll_7 (by decide) (fun c_7 => ?_) (fun c_7 => ?_)
        · skip
          have c_7 : (nI (sw i).length ≤ nI j) := c_7
          refine lv_iconst (v := 1) hx hb d_Reader_takeAll_47 (by decide) ?_
          exact hret H locs s1 true _ _ hP hD hS (pr2 (by first | (rw [hF]; ((try simp only [ez]) <;> simp only [ez, fAll, if_pos c_7, fStop, if_true, if_false, Bool.false_eq_true, ↓reduceIte]); done) | (rw [hF]; ((try simp only [ez]) <;> simp only [ez, fAll, if_pos c_7, fStop, if_true, if_false, Bool.false_eq_true, ↓reduceIte]); with_reducible rfl))) d_Reader_takeAll_48
        · skip
          exact absurd (nI_gyes (N := (sw i).length) rfl (by omega) (by omega)) c_7
      | succ k ih =>
        intro j s1 H locs ls hj hF hP hD hS hl
        have hlen := sw_len hi
        have ez : (sw i).drop j = (sw i).getD j 0 :: (sw i).drop (j + 1) := sw_cons (by omega)
        refine lv_iload_n hx hb d_Reader_takeAll_2 rfl (lv_at hl 0 rfl) ?_
        refine lv_aload_n hx hb d_Reader_takeAll_3 rfl (lv_at hl 2 rfl) ?_
        refine hx_Vi (wr := [(ad 0, .inr (1, [.ref (ad 1), .ref (ad 3), .ref (ad 4), .ref (ad 5), .int (rNm s1), .int (rKd s1), .int (rPl s1), .int (rSk s1), .int (rNb s1), .int (rWs s1), .int (rWe s1)])), (ad 1, .inr (2, [.ref (ad 2), .int (T.2)])), (ad 2, .inl (cd 0, 300, .inl T.1)), (ad 3, .inl (cd 1, 100, .inl (rNs s1))), (ad 4, .inl (cd 2, 100, .inl (rNe s1))), (ad 5, .inr (0, [.ref (ad 6), .ref (ad 7)])), (ad 6, .inl (cd 3, 18, .inl (rVs s1))), (ad 7, .inl (cd 4, 8, .inl (rVr s1)))]) (As := []) (rest := [.int (nI j)]) hI (c_String_length hi) (cw_V (C := "java/lang/String") 0 hts m_78 m_80 m_81 m_9 m_79 (by decide +kernel) ⟨by decide, by decide⟩) hX hA hP hD hS [] [0, 1, 2, 3, 4, 5, 6, 7] rfl rfl (by decide) (by decide) (by decide) (va_Orecv (hX.2.1 _ hi).1 hS) rfl hl.1 rfl (Nat.le_of_ble_eq_true rfl) d_Reader_takeAll_4 ⟨Nat.zero_le _, Nat.zero_le _⟩ (fun H locs hP hD hS => ?_)
        have hP : va_P D vwCl (rdW ad cd T s1) H := hP.sub [0, 1, 2, 3, 4, 5, 6, 7] rfl
        have hD : va_D A (rdW ad cd T s1) := hD.sub [0, 1, 2, 3, 4, 5, 6, 7] (by decide) rfl
        refine lv_icmp_ge (tgt := 47) hx hb d_Reader_takeAll_7 (by decide) (fun c_7 => ?_) (fun c_7 => ?_)
        · skip
          exact absurd c_7 (nI_gno (N := (sw i).length) rfl (by omega) (by omega))
        · skip
          have c_7 : ¬ (nI (sw i).length ≤ nI j) := c_7
          refine lv_aload_n hx hb d_Reader_takeAll_10 rfl (lv_at hl 1 rfl) ?_
          refine hx_Vi (wr := []) (As := []) (rest := []) hI (c_Reader_mark hT s1 ) (cw_V (C := "HeadDesk$Reader") 0 hts m_53 m_55 m_56 m_57 m_54 (by decide +kernel) ⟨by decide, by decide⟩) hX hA hP hD hS [0, 1, 2, 3, 4, 5, 6, 7] [] rfl rfl (by decide) (by decide) (by decide) (va_recv hX.1 hP (ci := 1) (q0 := 0) rfl rfl) rfl hl.1 rfl (Nat.le_of_ble_eq_true rfl) d_Reader_takeAll_11 ⟨Nat.zero_le _, Nat.zero_le _⟩ (fun H locs hP hD hS => ?_)
          have hP : va_P D vwCl (rdW ad cd T s1) H := hP
          have hD : va_D A (rdW ad cd T s1) := hD
          refine lv_aload_n hx hb d_Reader_takeAll_14 rfl (lv_at hl 2 rfl) ?_
          refine lv_iload_n hx hb d_Reader_takeAll_15 rfl (lv_at hl 0 rfl) ?_
          refine hx_Vi (wr := [(ad 0, .inr (1, [.ref (ad 1), .ref (ad 3), .ref (ad 4), .ref (ad 5), .int (rNm s1), .int (rKd s1), .int (rPl s1), .int (rSk s1), .int (rNb s1), .int (rWs s1), .int (rWe s1)])), (ad 1, .inr (2, [.ref (ad 2), .int (T.2)])), (ad 2, .inl (cd 0, 300, .inl T.1)), (ad 3, .inl (cd 1, 100, .inl (rNs s1))), (ad 4, .inl (cd 2, 100, .inl (rNe s1))), (ad 5, .inr (0, [.ref (ad 6), .ref (ad 7)])), (ad 6, .inl (cd 3, 18, .inl (rVs s1))), (ad 7, .inl (cd 4, 8, .inl (rVr s1)))]) (As := [.int (nI j)]) (rest := [.int (fMark T s1)]) hI (c_String_charAt hi (j := j) (by omega)) (cw_V (C := "java/lang/String") 1 hts m_82 m_84 m_85 m_9 m_83 (by decide +kernel) ⟨by decide, by decide⟩) hX hA hP hD hS [] [0, 1, 2, 3, 4, 5, 6, 7] rfl rfl (by decide) (by decide) (by decide) (va_Orecv (hX.2.1 _ hi).1 hS) rfl hl.1 rfl (Nat.le_of_ble_eq_true rfl) d_Reader_takeAll_16 ⟨Nat.zero_le _, Nat.zero_le _⟩ (fun H locs hP hD hS => ?_)
          have hP : va_P D vwCl (rdW ad cd T s1) H := hP.sub [0, 1, 2, 3, 4, 5, 6, 7] rfl
          have hD : va_D A (rdW ad cd T s1) := hD.sub [0, 1, 2, 3, 4, 5, 6, 7] (by decide) rfl
          refine lv_icmp_eq (tgt := 31) hx hb d_Reader_takeAll_19 (by decide) (fun c_19 => ?_) (fun c_19 => ?_)
          · skip
            have c_19 : (fMark T s1 = (sw i).getD j 0) := c_19
            refine lv_aload_n hx hb d_Reader_takeAll_31 rfl (lv_at hl 1 rfl) ?_
            refine lv_dup hx hb d_Reader_takeAll_32 rfl ?_
            refine va_get (D := D) (ci := 1) (v := .int (rPl s1)) (C := "HeadDesk$Reader") (T := F_Reader) (N := 11) hx hb hts a_Reader hown hX.1 hP 0 rfl rfl 6 (by decide) (hts _ m_47) (fun _ h9 => h9) rfl d_Reader_takeAll_33 ?_
            refine lv_iconst (v := 1) hx hb d_Reader_takeAll_36 (by decide) ?_
            refine lv_iadd hx hb d_Reader_takeAll_37 ?_
            refine va_put (D := D) (ci := 1) (v := .int ((rPl s1) + 1)) (ty := .int) (C := "HeadDesk$Reader") (T := F_Reader) (N := 11) hx hb hts a_Reader t_Reader k_Reader n_Reader hown hX.1 hP hD hS 0 rfl rfl 6 (by decide) (hts _ m_47) (fun _ h9 => h9) rfl (by decide +kernel) rfl rfl (Nat.le_of_ble_eq_true rfl) d_Reader_takeAll_38 (fun H locs hP hD hS => ?_)
            have hP : va_P D vwCl (rdW ad cd T (sPl s1 ((rPl s1) + 1))) H := hP
            have hD : va_D A (rdW ad cd T (sPl s1 ((rPl s1) + 1))) := hD
            refine lv_iinc (v := nI (j + 1)) (lv' := [(2, .int (nI (j + 1))), (0, .ref (ad 0)), (1, .ref (adK i))]) hx hb d_Reader_takeAll_41 hl (k := 0) rfl (by rw [nI_succ]; rfl) (by decide) rfl (fun ls hl => ?_)
            refine lv_goto (tgt := 2) hx hb d_Reader_takeAll_44 (by decide) ?_
            exact ih (j + 1) (sPl s1 ((rPl s1) + 1)) H locs ls (by omega)  (by first | (rw [hF]; ((try simp only [ez]) <;> simp only [ez, fAll, if_neg c_7, if_pos c_19, fStop, if_true, if_false, Bool.false_eq_true, ↓reduceIte]); done) | (rw [hF]; ((try simp only [ez]) <;> simp only [ez, fAll, if_neg c_7, if_pos c_19, fStop, if_true, if_false, Bool.false_eq_true, ↓reduceIte]); with_reducible rfl)) hP hD hS (lv_sub hl [0, 1, 2] rfl)
          · skip
            have c_19 : ¬ (fMark T s1 = (sw i).getD j 0) := c_19
            refine lv_aload_n hx hb d_Reader_takeAll_22 rfl (lv_at hl 1 rfl) ?_
            refine lv_aload_n hx hb d_Reader_takeAll_23 rfl (lv_at hl 1 rfl) ?_
            refine va_get (D := D) (ci := 1) (v := .int (rPl s1)) (C := "HeadDesk$Reader") (T := F_Reader) (N := 11) hx hb hts a_Reader hown hX.1 hP 0 rfl rfl 6 (by decide) (hts _ m_47) (fun _ h9 => h9) rfl d_Reader_takeAll_24 ?_
            refine hx_Vz (wr := []) (As := [.int (rPl s1)]) (rest := []) hI (c_Reader_stop hT s1 (rPl s1)) (cw_V (C := "HeadDesk$Reader") 1 hts m_58 m_60 m_61 m_57 m_59 (by decide +kernel) ⟨by decide, by decide⟩) hX hA hP hD hS [0, 1, 2, 3, 4, 5, 6, 7] [] rfl rfl (by decide) (by decide) (by decide) (va_recv hX.1 hP (ci := 1) (q0 := 0) rfl rfl) rfl hl.1 rfl (Nat.le_of_ble_eq_true rfl) d_Reader_takeAll_27 ⟨Nat.zero_le _, Nat.zero_le _⟩ (fun H locs hP hD hS => ?_)
            obtain ⟨s_27, e_27⟩ : ∃ z : RS, z = sSk s1 (rPl s1) := ⟨_, rfl⟩
            have hP : va_P D vwCl (rdW ad cd T s_27) H := by rw [e_27]; exact hP
            have hD : va_D A (rdW ad cd T s_27) := by rw [e_27]; exact hD
            exact hret H locs s_27 false _ _ hP hD hS (pr2 (by first | (rw [hF]; ((try simp only [ez]) <;> simp only [ez, fAll, if_neg c_7, if_neg c_19, ← e_27, fStop, if_true, if_false, Bool.false_eq_true, ↓reduceIte]); done) | (rw [hF]; ((try simp only [ez]) <;> simp only [ez, fAll, if_neg c_7, if_neg c_19, ← e_27, fStop, if_true, if_false, Bool.false_eq_true, ↓reduceIte]); with_reducible rfl) | (rw [hF]; ((try simp only [ez]) <;> simp only [ez, fAll, if_neg c_7, if_neg c_19, ← e_27, fStop, if_true, if_false, Bool.false_eq_true, ↓reduceIte]); rw [e_27]))) d_Reader_takeAll_30
    exact loop2 ((sw i).length) 0 st H locs ls (by omega) rfl hP hD hS (lv_sub hl [0, 1, 2] rfl)
  rw [hH, hlo] at goal
  exact goal
set_option maxHeartbeats 4000000 in
set_option maxRecDepth 100000 in
theorem c_Reader_isWord (hT : T.2 ≤ 300) (st : RS) {i : Nat} (hi : i < nJS) : hx_Mz l D (tyH cd) adK adV tF (rdW ad cd T) y_Reader_isWord w_Reader_isWord (rmD 5) [.ref (ad 0), .ref (adK i)] st (fIsW T st (sw i)) st := by
  refine hx_Mz.of (cc := b_Reader_isWord) (maxL := 3) (by decide) rfl (Nat.le_of_ble_eq_true rfl) ?_
  intro p e s m below meth c A Q ls hI hX hA hP hD hS hl hret
  obtain ⟨hx, hb, hml, hown, hts⟩ := id hI
  have hts : ∀ w ∈ aw, w.before ([.ref (ad 0), .ref (adK i)] : List Value).toArray s = true := fun w h => hts w (List.mem_cons_of_mem _ h)
  have hown : s.vm.findClass "HeadDesk$Reader" = some m.cls := hown
  have hI : hx_In p s m ([.ref (ad 0), .ref (adK i)] : List Value).toArray c b_Reader_isWord 3 "HeadDesk$Reader" aw := ⟨hx, hb, hml, hown, hts⟩
  have hP : va_P D vwCl (rdW ad cd T st) s.heap := hP
  obtain ⟨H, hH⟩ : ∃ H, H = s.heap := ⟨_, rfl⟩
  obtain ⟨locs, hlo⟩ : ∃ locs : List Loc, locs = [] := ⟨_, rfl⟩
  have hS : va_S A s.heap H locs := by rw [hH, hlo]; exact hS
  have hP : va_P D vwCl (rdW ad cd T st) H := by rw [hH]; exact hP
  have hl : lv_has ls 3 [(0, .ref (ad 0)), (1, .ref (adK i))] := hl
  have goal : W p l e (rmD 5) s m ([.ref (ad 0), .ref (adK i)] : List Value).toArray below meth c H locs 0 0 Q (F0 m 0 ls []) := by
    refine lv_aload_n hx hb d_Reader_isWord_0 rfl (lv_at hl 0 rfl) ?_
    refine va_get (D := D) (ci := 1) (v := .int (rWe st)) (C := "HeadDesk$Reader") (T := F_Reader) (N := 11) hx hb hts a_Reader hown hX.1 hP 0 rfl rfl 10 (by decide) (hts _ m_67) (fun _ h9 => h9) rfl d_Reader_isWord_1 ?_
    refine lv_aload_n hx hb d_Reader_isWord_4 rfl (lv_at hl 0 rfl) ?_
    refine va_get (D := D) (ci := 1) (v := .int (rWs st)) (C := "HeadDesk$Reader") (T := F_Reader) (N := 11) hx hb hts a_Reader hown hX.1 hP 0 rfl rfl 9 (by decide) (hts _ m_66) (fun _ h9 => h9) rfl d_Reader_isWord_5 ?_
    refine lv_isub hx hb d_Reader_isWord_8 ?_
    refine lv_aload_n hx hb d_Reader_isWord_9 rfl (lv_at hl 1 rfl) ?_
    refine hx_Vi (wr := [(ad 0, .inr (1, [.ref (ad 1), .ref (ad 3), .ref (ad 4), .ref (ad 5), .int (rNm st), .int (rKd st), .int (rPl st), .int (rSk st), .int (rNb st), .int (rWs st), .int (rWe st)])), (ad 1, .inr (2, [.ref (ad 2), .int (T.2)])), (ad 2, .inl (cd 0, 300, .inl T.1)), (ad 3, .inl (cd 1, 100, .inl (rNs st))), (ad 4, .inl (cd 2, 100, .inl (rNe st))), (ad 5, .inr (0, [.ref (ad 6), .ref (ad 7)])), (ad 6, .inl (cd 3, 18, .inl (rVs st))), (ad 7, .inl (cd 4, 8, .inl (rVr st)))]) (As := []) (rest := [.int ((rWe st) - (rWs st))]) hI (c_String_length hi) (cw_V (C := "java/lang/String") 0 hts m_78 m_80 m_81 m_9 m_79 (by decide +kernel) ⟨by decide, by decide⟩) hX hA hP hD hS [] [0, 1, 2, 3, 4, 5, 6, 7] rfl rfl (by decide) (by decide) (by decide) (va_Orecv (hX.2.1 _ hi).1 hS) rfl hl.1 rfl (Nat.le_of_ble_eq_true rfl) d_Reader_isWord_10 ⟨Nat.zero_le _, Nat.zero_le _⟩ (fun H locs hP hD hS => ?_)
    have hP : va_P D vwCl (rdW ad cd T st) H := hP.sub [0, 1, 2, 3, 4, 5, 6, 7] rfl
    have hD : va_D A (rdW ad cd T st) := hD.sub [0, 1, 2, 3, 4, 5, 6, 7] (by decide) rfl
    refine lv_icmp_eq (tgt := 18) hx hb d_Reader_isWord_13 (by decide) (fun c_13 => ?_) (fun c_13 => ?_)
    · skip
      have c_13 : ((rWe st) - (rWs st) = nI (sw i).length) := c_13
      refine lv_iconst (v := 0) hx hb d_Reader_isWord_18 (by decide) ?_
      refine lv_istore_n (lv' := [(2, .int 0), (0, .ref (ad 0)), (1, .ref (adK i))]) hx hb d_Reader_isWord_19 rfl hl (by decide) rfl (fun ls hl => ?_)
      have loop20 : ∀ (k : Nat) (j : Nat) (H : Heap) (locs : List Loc) (ls : Array Slot), j + k = (sw i).length → fIsW T st (sw i) = wEq T (rWs st) ((sw i).drop j) j → va_P D vwCl (rdW ad cd T st) H → va_D A (rdW ad cd T st) → va_S A s.heap H locs → lv_has ls 3 [(2, .int (nI j)), (0, .ref (ad 0)), (1, .ref (adK i))] → W p l e (rmD 5) s m ([.ref (ad 0), .ref (adK i)] : List Value).toArray below meth c H locs 0 0 Q (F0 m 20 ls []) := by
        intro k
        induction k with
        | zero =>
          intro j H locs ls hj hF hP hD hS hl
          have hlen := sw_len hi
          have ez : (sw i).drop j = [] := sw_nil (by omega)
          refine lv_iload_n hx hb d_Reader_isWord_20 rfl (lv_at hl 0 rfl) ?_
          refine lv_aload_n hx hb d_Reader_isWord_21 rfl (lv_at hl 2 rfl) ?_
          refine hx_Vi (wr := [(ad 0, .inr (1, [.ref (ad 1), .ref (ad 3), .ref (ad 4), .ref (ad 5), .int (rNm st), .int (rKd st), .int (rPl st), .int (rSk st), .int (rNb st), .int (rWs st), .int (rWe st)])), (ad 1, .inr (2, [.ref (ad 2), .int (T.2)])), (ad 2, .inl (cd 0, 300, .inl T.1)), (ad 3, .inl (cd 1, 100, .inl (rNs st))), (ad 4, .inl (cd 2, 100, .inl (rNe st))), (ad 5, .inr (0, [.ref (ad 6), .ref (ad 7)])), (ad 6, .inl (cd 3, 18, .inl (rVs st))), (ad 7, .inl (cd 4, 8, .inl (rVr st)))]) (As := []) (rest := [.int (nI j)]) hI (c_String_length hi) (cw_V (C := "java/lang/String") 0 hts m_78 m_80 m_81 m_9 m_79 (by decide +kernel) ⟨by decide, by decide⟩) hX hA hP hD hS [] [0, 1, 2, 3, 4, 5, 6, 7] rfl rfl (by decide) (by decide) (by decide) (va_Orecv (hX.2.1 _ hi).1 hS) rfl hl.1 rfl (Nat.le_of_ble_eq_true rfl) d_Reader_isWord_22 ⟨Nat.zero_le _, Nat.zero_le _⟩ (fun H locs hP hD hS => ?_)
          have hP : va_P D vwCl (rdW ad cd T st) H := hP.sub [0, 1, 2, 3, 4, 5, 6, 7] rfl
          have hD : va_D A (rdW ad cd T st) := hD.sub [0, 1, 2, 3, 4, 5, 6, 7] (by decide) rfl
          refine lv_icmp_ge (tgt := 57) hx hb d_Reader_isWord_25 (by decide) (fun c_25 => ?_) (fun c_25 => ?_)
          · skip
            have c_25 : (nI (sw i).length ≤ nI j) := c_25
            refine lv_iconst (v := 1) hx hb d_Reader_isWord_57 (by decide) ?_
            exact hret H locs st true _ _ hP hD hS ⟨(by first | (rw [hF]; ((try simp only [ez]) <;> simp only [ez, wEq, if_pos c_25, fStop, if_true, if_false, Bool.false_eq_true, ↓reduceIte]); done) | (rw [hF]; ((try simp only [ez]) <;> simp only [ez, wEq, if_pos c_25, fStop, if_true, if_false, Bool.false_eq_true, ↓reduceIte]); with_reducible rfl)), rfl⟩ d_Reader_isWord_58
          · skip
            exact absurd (nI_gyes (N := (sw i).length) rfl (by omega) (by omega)) c_25
        | succ k ih =>
          intro j H locs ls hj hF hP hD hS hl
          have hlen := sw_len hi
          have ez : (sw i).drop j = (sw i).getD j 0 :: (sw i).drop (j + 1) := sw_cons (by omega)
          refine lv_iload_n hx hb d_Reader_isWord_20 rfl (lv_at hl 0 rfl) ?_
          refine lv_aload_n hx hb d_Reader_isWord_21 rfl (lv_at hl 2 rfl) ?_
          refine hx_Vi (wr := [(ad 0, .inr (1, [.ref (ad 1), .ref (ad 3), .ref (ad 4), .ref (ad 5), .int (rNm st), .int (rKd st), .int (rPl st), .int (rSk st), .int (rNb st), .int (rWs st), .int (rWe st)])), (ad 1, .inr (2, [.ref (ad 2), .int (T.2)])), (ad 2, .inl (cd 0, 300, .inl T.1)), (ad 3, .inl (cd 1, 100, .inl (rNs st))), (ad 4, .inl (cd 2, 100, .inl (rNe st))), (ad 5, .inr (0, [.ref (ad 6), .ref (ad 7)])), (ad 6, .inl (cd 3, 18, .inl (rVs st))), (ad 7, .inl (cd 4, 8, .inl (rVr st)))]) (As := []) (rest := [.int (nI j)]) hI (c_String_length hi) (cw_V (C := "java/lang/String") 0 hts m_78 m_80 m_81 m_9 m_79 (by decide +kernel) ⟨by decide, by decide⟩) hX hA hP hD hS [] [0, 1, 2, 3, 4, 5, 6, 7] rfl rfl (by decide) (by decide) (by decide) (va_Orecv (hX.2.1 _ hi).1 hS) rfl hl.1 rfl (Nat.le_of_ble_eq_true rfl) d_Reader_isWord_22 ⟨Nat.zero_le _, Nat.zero_le _⟩ (fun H locs hP hD hS => ?_)
          have hP : va_P D vwCl (rdW ad cd T st) H := hP.sub [0, 1, 2, 3, 4, 5, 6, 7] rfl
          have hD : va_D A (rdW ad cd T st) := hD.sub [0, 1, 2, 3, 4, 5, 6, 7] (by decide) rfl
          refine lv_icmp_ge (tgt := 57) hx hb d_Reader_isWord_25 (by decide) (fun c_25 => ?_) (fun c_25 => ?_)
          · skip
            exact absurd c_25 (nI_gno (N := (sw i).length) rfl (by omega) (by omega))
          · skip
            have c_25 : ¬ (nI (sw i).length ≤ nI j) := c_25
            refine lv_aload_n hx hb d_Reader_isWord_28 rfl (lv_at hl 1 rfl) ?_
            refine va_get (D := D) (ci := 1) (v := .ref (ad 1)) (C := "HeadDesk$Reader") (T := F_Reader) (N := 11) hx hb hts a_Reader hown hX.1 hP 0 rfl rfl 0 (by decide) (hts _ m_46) (fun _ h9 => h9) rfl d_Reader_isWord_29 ?_
            refine lv_aload_n hx hb d_Reader_isWord_32 rfl (lv_at hl 1 rfl) ?_
            refine va_get (D := D) (ci := 1) (v := .int (rWs st)) (C := "HeadDesk$Reader") (T := F_Reader) (N := 11) hx hb hts a_Reader hown hX.1 hP 0 rfl rfl 9 (by decide) (hts _ m_66) (fun _ h9 => h9) rfl d_Reader_isWord_33 ?_
            refine lv_iload_n hx hb d_Reader_isWord_36 rfl (lv_at hl 0 rfl) ?_
            refine lv_iadd hx hb d_Reader_isWord_37 ?_
            refine hx_Vi (wr := [(ad 0, .inr (1, [.ref (ad 1), .ref (ad 3), .ref (ad 4), .ref (ad 5), .int (rNm st), .int (rKd st), .int (rPl st), .int (rSk st), .int (rNb st), .int (rWs st), .int (rWe st)])), (ad 3, .inl (cd 1, 100, .inl (rNs st))), (ad 4, .inl (cd 2, 100, .inl (rNe st))), (ad 5, .inr (0, [.ref (ad 6), .ref (ad 7)])), (ad 6, .inl (cd 3, 18, .inl (rVs st))), (ad 7, .inl (cd 4, 8, .inl (rVr st)))]) (As := [.int ((rWs st) + (nI j))]) (rest := []) hI (c_Tape_markAt hT ((rWs st) + (nI j))) (cw_V (C := "HeadDesk$Tape") 1 hts m_48 m_50 m_51 m_30 m_49 (by decide +kernel) ⟨by decide, by decide⟩) hX hA hP hD hS [1, 2] [0, 3, 4, 5, 6, 7] rfl rfl (by decide) (by decide) (by decide) (va_recv hX.1 hP (ci := 2) (q0 := 1) rfl rfl) rfl hl.1 rfl (Nat.le_of_ble_eq_true rfl) d_Reader_isWord_38 ⟨Nat.zero_le _, Nat.zero_le _⟩ (fun H locs hP hD hS => ?_)
            have hP : va_P D vwCl (rdW ad cd T st) H := hP.sub [0, 6, 7, 1, 2, 3, 4, 5] rfl
            have hD : va_D A (rdW ad cd T st) := hD.sub [0, 6, 7, 1, 2, 3, 4, 5] (by decide) rfl
            refine lv_aload_n hx hb d_Reader_isWord_41 rfl (lv_at hl 2 rfl) ?_
            refine lv_iload_n hx hb d_Reader_isWord_42 rfl (lv_at hl 0 rfl) ?_
            refine hx_Vi (wr := [(ad 0, .inr (1, [.ref (ad 1), .ref (ad 3), .ref (ad 4), .ref (ad 5), .int (rNm st), .int (rKd st), .int (rPl st), .int (rSk st), .int (rNb st), .int (rWs st), .int (rWe st)])), (ad 1, .inr (2, [.ref (ad 2), .int (T.2)])), (ad 2, .inl (cd 0, 300, .inl T.1)), (ad 3, .inl (cd 1, 100, .inl (rNs st))), (ad 4, .inl (cd 2, 100, .inl (rNe st))), (ad 5, .inr (0, [.ref (ad 6), .ref (ad 7)])), (ad 6, .inl (cd 3, 18, .inl (rVs st))), (ad 7, .inl (cd 4, 8, .inl (rVr st)))]) (As := [.int (nI j)]) (rest := [.int (mAt T ((rWs st) + (nI j)))]) hI (c_String_charAt hi (j := j) (by omega)) (cw_V (C := "java/lang/String") 1 hts m_82 m_84 m_85 m_9 m_83 (by decide +kernel) ⟨by decide, by decide⟩) hX hA hP hD hS [] [0, 1, 2, 3, 4, 5, 6, 7] rfl rfl (by decide) (by decide) (by decide) (va_Orecv (hX.2.1 _ hi).1 hS) rfl hl.1 rfl (Nat.le_of_ble_eq_true rfl) d_Reader_isWord_43 ⟨Nat.zero_le _, Nat.zero_le _⟩ (fun H locs hP hD hS => ?_)
            have hP : va_P D vwCl (rdW ad cd T st) H := hP.sub [0, 1, 2, 3, 4, 5, 6, 7] rfl
            have hD : va_D A (rdW ad cd T st) := hD.sub [0, 1, 2, 3, 4, 5, 6, 7] (by decide) rfl
            refine lv_icmp_eq (tgt := 51) hx hb d_Reader_isWord_46 (by decide) (fun c_46 => ?_) (fun c_46 => ?_)
            · skip
              have c_46 : (mAt T ((rWs st) + (nI j)) = (sw i).getD j 0) := c_46
              refine lv_iinc (v := nI (j + 1)) (lv' := [(2, .int (nI (j + 1))), (0, .ref (ad 0)), (1, .ref (adK i))]) hx hb d_Reader_isWord_51 hl (k := 0) rfl (by rw [nI_succ]; rfl) (by decide) rfl (fun ls hl => ?_)
              refine lv_goto (tgt := 20) hx hb d_Reader_isWord_54 (by decide) ?_
              exact ih (j + 1)  H locs ls (by omega)  (by first | (rw [hF]; ((try simp only [ez]) <;> simp only [ez, wEq, if_neg c_25, if_pos c_46, fStop, if_true, if_false, Bool.false_eq_true, ↓reduceIte]); done) | (rw [hF]; ((try simp only [ez]) <;> simp only [ez, wEq, if_neg c_25, if_pos c_46, fStop, if_true, if_false, Bool.false_eq_true, ↓reduceIte]); with_reducible rfl)) hP hD hS (lv_sub hl [0, 1, 2] rfl)
            · skip
              have c_46 : ¬ (mAt T ((rWs st) + (nI j)) = (sw i).getD j 0) := c_46
              refine lv_iconst (v := 0) hx hb d_Reader_isWord_49 (by decide) ?_
              exact hret H locs st false _ _ hP hD hS ⟨(by first | (rw [hF]; ((try simp only [ez]) <;> simp only [ez, wEq, if_neg c_25, if_neg c_46, fStop, if_true, if_false, Bool.false_eq_true, ↓reduceIte]); done) | (rw [hF]; ((try simp only [ez]) <;> simp only [ez, wEq, if_neg c_25, if_neg c_46, fStop, if_true, if_false, Bool.false_eq_true, ↓reduceIte]); with_reducible rfl)), rfl⟩ d_Reader_isWord_50
      exact loop20 ((sw i).length) 0  H locs ls (by omega) (by simp only [fIsW, if_pos c_13, List.drop_zero]) hP hD hS (lv_sub hl [0, 1, 2] rfl)
    · skip
      have c_13 : ¬ ((rWe st) - (rWs st) = nI (sw i).length) := c_13
      refine lv_iconst (v := 0) hx hb d_Reader_isWord_16 (by decide) ?_
      exact hret H locs st false _ _ hP hD hS ⟨(by first | (simp only [fIsW, if_neg c_13, fStop, if_true, if_false, Bool.false_eq_true, ↓reduceIte]; done) | (simp only [fIsW, if_neg c_13, fStop, if_true, if_false, Bool.false_eq_true, ↓reduceIte]; with_reducible rfl)), rfl⟩ d_Reader_isWord_17
  rw [hH, hlo] at goal
  exact goal
end
section
variable {l : Launch} {D : va_G} {ad : Nat → Nat} {cd : Nat → ClassId} {adK adV : Nat → Nat} {tF : Nat} {T : TX} {tys : List (ClassId × FieldType)}
theorem c_Reader_isWordL (hT : T.2 ≤ 300) (st : RS) {i : Nat} (hi : i < nJS) {w : List Int32} (hw : sw i = w) : hx_Mz l D (tyH cd) adK adV tF (rdW ad cd T) y_Reader_isWord w_Reader_isWord (rmD 5) [.ref (ad 0), .ref (adK i)] st (fIsW T st w) st := by
  subst hw
  exact c_Reader_isWord hT st hi
theorem c_Reader_takeAllL (hT : T.2 ≤ 300) (st : RS) {i : Nat} (hi : i < nJS) {w : List Int32} (hw : sw i = w) : hx_Mz l D (tyH cd) adK adV tF (rdW ad cd T) y_Reader_takeAll w_Reader_takeAll (rmD 5) [.ref (ad 0), .ref (adK i)] st (fAll T w st).1 (fAll T w st).2 := by
  subst hw
  exact c_Reader_takeAll hT st hi
end
section
variable {l : Launch} {D : va_G} {ad : Nat → Nat} {cd : Nat → ClassId} {adK adV : Nat → Nat} {tF : Nat} {T : TX} {tys : List (ClassId × FieldType)}

set_option maxHeartbeats 4000000 in
set_option maxRecDepth 100000 in
theorem c_Reader_countBare (hT : T.2 ≤ 300) (st : RS)  : hx_Mv l D (tyH cd) adK adV tF (rdW ad cd T) y_Reader_countBare w_Reader_countBare (rmD 6) [.ref (ad 0)] st (fBare T st) := by
  refine hx_Mv.of (cc := b_Reader_countBare) (maxL := 1) (by decide) rfl (Nat.le_of_ble_eq_true rfl) ?_
  intro p e s m below meth c A Q ls hI hX hA hP hD hS hl hret
  obtain ⟨hx, hb, hml, hown, hts⟩ := id hI
  have hts : ∀ w ∈ aw, w.before ([.ref (ad 0)] : List Value).toArray s = true := fun w h => hts w (List.mem_cons_of_mem _ h)
  have hown : s.vm.findClass "HeadDesk$Reader" = some m.cls := hown
  have hI : hx_In p s m ([.ref (ad 0)] : List Value).toArray c b_Reader_countBare 1 "HeadDesk$Reader" aw := ⟨hx, hb, hml, hown, hts⟩
  have hP : va_P D vwCl (rdW ad cd T st) s.heap := hP
  obtain ⟨H, hH⟩ : ∃ H, H = s.heap := ⟨_, rfl⟩
  obtain ⟨locs, hlo⟩ : ∃ locs : List Loc, locs = [] := ⟨_, rfl⟩
  have hS : va_S A s.heap H locs := by rw [hH, hlo]; exact hS
  have hP : va_P D vwCl (rdW ad cd T st) H := by rw [hH]; exact hP
  have hl : lv_has ls 1 [(0, .ref (ad 0))] := hl
  have goal : W p l e (rmD 6) s m ([.ref (ad 0)] : List Value).toArray below meth c H locs 0 0 Q (F0 m 0 ls []) := by
    refine lv_aload_n hx hb d_Reader_countBare_0 rfl (lv_at hl 0 rfl) ?_
    refine va_ldcS hx hb hown (hX.2.2.2.2.2.1 _ _ _ _ st_5) d_Reader_countBare_1 ?_
    refine hx_Vz (wr := []) (As := [.ref (adK 5)]) (rest := []) hI (c_Reader_isWordL hT st (by decide) sw_5) (cw_V (C := "HeadDesk$Reader") 1 hts m_86 m_88 m_89 m_57 m_87 (by decide +kernel) ⟨by decide, by decide⟩) hX hA hP hD hS [0, 1, 2, 3, 4, 5, 6, 7] [] rfl rfl (by decide) (by decide) (by decide) (va_recv hX.1 hP (ci := 1) (q0 := 0) rfl rfl) rfl hl.1 rfl (Nat.le_of_ble_eq_true rfl) d_Reader_countBare_3 ⟨Nat.zero_le _, Nat.zero_le _⟩ (fun H locs hP hD hS => ?_)
    have hP : va_P D vwCl (rdW ad cd T st) H := hP
    have hD : va_D A (rdW ad cd T st) := hD
    refine lv_if_eq (tgt := 22) hx hb d_Reader_countBare_6 (by decide) (fun c_6 => ?_) (fun c_6 => ?_)
    · skip
      have c_6 : (fIsW T st t_no_cache) = false := bI_0 c_6
      refine lv_aload_n hx hb d_Reader_countBare_22 rfl (lv_at hl 0 rfl) ?_
      refine va_get (D := D) (ci := 1) (v := .int (rKd st)) (C := "HeadDesk$Reader") (T := F_Reader) (N := 11) hx hb hts a_Reader hown hX.1 hP 0 rfl rfl 5 (by decide) (hts _ m_90) (fun _ h9 => h9) rfl d_Reader_countBare_23 ?_
      refine lv_iconst (v := 1) hx hb d_Reader_countBare_26 (by decide) ?_
      refine lv_icmp_ne (tgt := 52) hx hb d_Reader_countBare_27 (by decide) (fun c_27 => ?_) (fun c_27 => ?_)
      · skip
        have c_27 : ¬ (rKd st = 1) := c_27
        refine lv_aload_n hx hb d_Reader_countBare_52 rfl (lv_at hl 0 rfl) ?_
        refine va_ldcS hx hb hown (hX.2.2.2.2.2.1 _ _ _ _ st_7) d_Reader_countBare_53 ?_
        refine hx_Vz (wr := []) (As := [.ref (adK 7)]) (rest := []) hI (c_Reader_isWordL hT st (by decide) sw_7) (cw_V (C := "HeadDesk$Reader") 1 hts m_86 m_88 m_89 m_57 m_87 (by decide +kernel) ⟨by decide, by decide⟩) hX hA hP hD hS [0, 1, 2, 3, 4, 5, 6, 7] [] rfl rfl (by decide) (by decide) (by decide) (va_recv hX.1 hP (ci := 1) (q0 := 0) rfl rfl) rfl hl.1 rfl (Nat.le_of_ble_eq_true rfl) d_Reader_countBare_55 ⟨Nat.zero_le _, Nat.zero_le _⟩ (fun H locs hP hD hS => ?_)
        have hP : va_P D vwCl (rdW ad cd T st) H := hP
        have hD : va_D A (rdW ad cd T st) := hD
        refine lv_if_eq (tgt := 74) hx hb d_Reader_countBare_58 (by decide) (fun c_58 => ?_) (fun c_58 => ?_)
        · skip
          have c_58 : (fIsW T st t_only_if_cached) = false := bI_0 c_58
          refine lv_aload_n hx hb d_Reader_countBare_74 rfl (lv_at hl 0 rfl) ?_
          refine va_ldcS hx hb hown (hX.2.2.2.2.2.1 _ _ _ _ st_8) d_Reader_countBare_75 ?_
          refine hx_Vz (wr := []) (As := [.ref (adK 8)]) (rest := []) hI (c_Reader_isWordL hT st (by decide) sw_8) (cw_V (C := "HeadDesk$Reader") 1 hts m_86 m_88 m_89 m_57 m_87 (by decide +kernel) ⟨by decide, by decide⟩) hX hA hP hD hS [0, 1, 2, 3, 4, 5, 6, 7] [] rfl rfl (by decide) (by decide) (by decide) (va_recv hX.1 hP (ci := 1) (q0 := 0) rfl rfl) rfl hl.1 rfl (Nat.le_of_ble_eq_true rfl) d_Reader_countBare_77 ⟨Nat.zero_le _, Nat.zero_le _⟩ (fun H locs hP hD hS => ?_)
          have hP : va_P D vwCl (rdW ad cd T st) H := hP
          have hD : va_D A (rdW ad cd T st) := hD
          refine lv_if_eq (tgt := 94) hx hb d_Reader_countBare_80 (by decide) (fun c_80 => ?_) (fun c_80 => ?_)
          · skip
            have c_80 : (fIsW T st t_max_stale) = false := bI_0 c_80
            exact hret H locs st _ _ hP hD hS (by first | (simp only [fBare, c_6, if_neg c_27, c_58, c_80, fStop, if_true, if_false, Bool.false_eq_true, ↓reduceIte]; done) | (simp only [fBare, c_6, if_neg c_27, c_58, c_80, fStop, if_true, if_false, Bool.false_eq_true, ↓reduceIte]; with_reducible rfl)) d_Reader_countBare_94
          · skip
            have c_80 : (fIsW T st t_max_stale) = true := bI_1 c_80
            refine lv_aload_n hx hb d_Reader_countBare_83 rfl (lv_at hl 0 rfl) ?_
            refine va_get (D := D) (ci := 1) (v := .ref (ad 5)) (C := "HeadDesk$Reader") (T := F_Reader) (N := 11) hx hb hts a_Reader hown hX.1 hP 0 rfl rfl 3 (by decide) (hts _ m_91) (fun _ h9 => h9) rfl d_Reader_countBare_84 ?_
            refine lv_bipush (v := 13) hx hb d_Reader_countBare_87 (by decide) ?_
            refine lv_bipush (v := (-2)) hx hb d_Reader_countBare_89 (by decide) ?_
            refine hx_Vv (wr := [(ad 0, .inr (1, [.ref (ad 1), .ref (ad 3), .ref (ad 4), .ref (ad 5), .int (rNm st), .int (rKd st), .int (rPl st), .int (rSk st), .int (rNb st), .int (rWs st), .int (rWe st)])), (ad 1, .inr (2, [.ref (ad 2), .int (T.2)])), (ad 2, .inl (cd 0, 300, .inl T.1)), (ad 3, .inl (cd 1, 100, .inl (rNs st))), (ad 4, .inl (cd 2, 100, .inl (rNe st)))]) (As := [.int 13, .int (-2)]) (rest := []) hI (c_Head_set (ah := ad 5) (av := ad 6) (ar := ad 7) (cv := cd 3) (cr := cd 4) (tv := 3) (tr := 4) rfl rfl (rVs st, rVr st) 13 (-2)) (cw_V (C := "HeadDesk$Head") 2 hts m_92 m_94 m_95 m_40 m_93 (by decide +kernel) ⟨by decide, by decide⟩) hX hA hP hD hS [5, 6, 7] [0, 1, 2, 3, 4] rfl rfl (by decide) (by decide) (by decide) (va_recv hX.1 hP (ci := 0) (q0 := 5) rfl rfl) rfl hl.1 rfl (Nat.le_of_ble_eq_true rfl) d_Reader_countBare_91 ⟨Nat.zero_le _, Nat.zero_le _⟩ (fun H locs hP hD hS => ?_)
            obtain ⟨s_91, e_91⟩ : ∃ z : RS, z = sVs st (hSet (rVs st) 13 (-2)) := ⟨_, rfl⟩
            have hP : va_P D vwCl (rdW ad cd T s_91) H := by rw [e_91]; exact hP.sub [0, 1, 2, 3, 4, 5, 6, 7] rfl
            have hD : va_D A (rdW ad cd T s_91) := by rw [e_91]; exact hD.sub [0, 1, 2, 3, 4, 5, 6, 7] (by decide) rfl
            exact hret H locs s_91 _ _ hP hD hS (by first | (simp only [fBare, c_6, if_neg c_27, c_58, c_80, ← e_91, fStop, if_true, if_false, Bool.false_eq_true, ↓reduceIte]; done) | (simp only [fBare, c_6, if_neg c_27, c_58, c_80, ← e_91, fStop, if_true, if_false, Bool.false_eq_true, ↓reduceIte]; with_reducible rfl) | (simp only [fBare, c_6, if_neg c_27, c_58, c_80, ← e_91, fStop, if_true, if_false, Bool.false_eq_true, ↓reduceIte]; rw [e_91])) d_Reader_countBare_94
        · skip
          have c_58 : (fIsW T st t_only_if_cached) = true := bI_1 c_58
          refine lv_aload_n hx hb d_Reader_countBare_61 rfl (lv_at hl 0 rfl) ?_
          refine va_get (D := D) (ci := 1) (v := .ref (ad 5)) (C := "HeadDesk$Reader") (T := F_Reader) (N := 11) hx hb hts a_Reader hown hX.1 hP 0 rfl rfl 3 (by decide) (hts _ m_91) (fun _ h9 => h9) rfl d_Reader_countBare_62 ?_
          refine lv_bipush (v := 11) hx hb d_Reader_countBare_65 (by decide) ?_
          refine lv_iconst (v := 1) hx hb d_Reader_countBare_67 (by decide) ?_
          refine hx_Vv (wr := [(ad 0, .inr (1, [.ref (ad 1), .ref (ad 3), .ref (ad 4), .ref (ad 5), .int (rNm st), .int (rKd st), .int (rPl st), .int (rSk st), .int (rNb st), .int (rWs st), .int (rWe st)])), (ad 1, .inr (2, [.ref (ad 2), .int (T.2)])), (ad 2, .inl (cd 0, 300, .inl T.1)), (ad 3, .inl (cd 1, 100, .inl (rNs st))), (ad 4, .inl (cd 2, 100, .inl (rNe st)))]) (As := [.int 11, .int 1]) (rest := []) hI (c_Head_set (ah := ad 5) (av := ad 6) (ar := ad 7) (cv := cd 3) (cr := cd 4) (tv := 3) (tr := 4) rfl rfl (rVs st, rVr st) 11 1) (cw_V (C := "HeadDesk$Head") 2 hts m_92 m_94 m_95 m_40 m_93 (by decide +kernel) ⟨by decide, by decide⟩) hX hA hP hD hS [5, 6, 7] [0, 1, 2, 3, 4] rfl rfl (by decide) (by decide) (by decide) (va_recv hX.1 hP (ci := 0) (q0 := 5) rfl rfl) rfl hl.1 rfl (Nat.le_of_ble_eq_true rfl) d_Reader_countBare_68 ⟨Nat.zero_le _, Nat.zero_le _⟩ (fun H locs hP hD hS => ?_)
          obtain ⟨s_68, e_68⟩ : ∃ z : RS, z = sVs st (hSet (rVs st) 11 1) := ⟨_, rfl⟩
          have hP : va_P D vwCl (rdW ad cd T s_68) H := by rw [e_68]; exact hP.sub [0, 1, 2, 3, 4, 5, 6, 7] rfl
          have hD : va_D A (rdW ad cd T s_68) := by rw [e_68]; exact hD.sub [0, 1, 2, 3, 4, 5, 6, 7] (by decide) rfl
          refine lv_goto (tgt := 94) hx hb d_Reader_countBare_71 (by decide) ?_
          exact hret H locs s_68 _ _ hP hD hS (by first | (simp only [fBare, c_6, if_neg c_27, c_58, ← e_68, fStop, if_true, if_false, Bool.false_eq_true, ↓reduceIte]; done) | (simp only [fBare, c_6, if_neg c_27, c_58, ← e_68, fStop, if_true, if_false, Bool.false_eq_true, ↓reduceIte]; with_reducible rfl) | (simp only [fBare, c_6, if_neg c_27, c_58, ← e_68, fStop, if_true, if_false, Bool.false_eq_true, ↓reduceIte]; rw [e_68])) d_Reader_countBare_94
      · skip
        have c_27 : (rKd st = 1) := c_27
        refine lv_aload_n hx hb d_Reader_countBare_30 rfl (lv_at hl 0 rfl) ?_
        refine va_ldcS hx hb hown (hX.2.2.2.2.2.1 _ _ _ _ st_6) d_Reader_countBare_31 ?_
        refine hx_Vz (wr := []) (As := [.ref (adK 6)]) (rest := []) hI (c_Reader_isWordL hT st (by decide) sw_6) (cw_V (C := "HeadDesk$Reader") 1 hts m_86 m_88 m_89 m_57 m_87 (by decide +kernel) ⟨by decide, by decide⟩) hX hA hP hD hS [0, 1, 2, 3, 4, 5, 6, 7] [] rfl rfl (by decide) (by decide) (by decide) (va_recv hX.1 hP (ci := 1) (q0 := 0) rfl rfl) rfl hl.1 rfl (Nat.le_of_ble_eq_true rfl) d_Reader_countBare_33 ⟨Nat.zero_le _, Nat.zero_le _⟩ (fun H locs hP hD hS => ?_)
        have hP : va_P D vwCl (rdW ad cd T st) H := hP
        have hD : va_D A (rdW ad cd T st) := hD
        refine lv_if_eq (tgt := 94) hx hb d_Reader_countBare_36 (by decide) (fun c_36 => ?_) (fun c_36 => ?_)
        · skip
          have c_36 : (fIsW T st t_no_store) = false := bI_0 c_36
          exact hret H locs st _ _ hP hD hS (by first | (simp only [fBare, c_6, if_pos c_27, c_36, fStop, if_true, if_false, Bool.false_eq_true, ↓reduceIte]; done) | (simp only [fBare, c_6, if_pos c_27, c_36, fStop, if_true, if_false, Bool.false_eq_true, ↓reduceIte]; with_reducible rfl)) d_Reader_countBare_94
        · skip
          have c_36 : (fIsW T st t_no_store) = true := bI_1 c_36
          refine lv_aload_n hx hb d_Reader_countBare_39 rfl (lv_at hl 0 rfl) ?_
          refine va_get (D := D) (ci := 1) (v := .ref (ad 5)) (C := "HeadDesk$Reader") (T := F_Reader) (N := 11) hx hb hts a_Reader hown hX.1 hP 0 rfl rfl 3 (by decide) (hts _ m_91) (fun _ h9 => h9) rfl d_Reader_countBare_40 ?_
          refine lv_bipush (v := 15) hx hb d_Reader_countBare_43 (by decide) ?_
          refine lv_iconst (v := 1) hx hb d_Reader_countBare_45 (by decide) ?_
          refine hx_Vv (wr := [(ad 0, .inr (1, [.ref (ad 1), .ref (ad 3), .ref (ad 4), .ref (ad 5), .int (rNm st), .int (rKd st), .int (rPl st), .int (rSk st), .int (rNb st), .int (rWs st), .int (rWe st)])), (ad 1, .inr (2, [.ref (ad 2), .int (T.2)])), (ad 2, .inl (cd 0, 300, .inl T.1)), (ad 3, .inl (cd 1, 100, .inl (rNs st))), (ad 4, .inl (cd 2, 100, .inl (rNe st)))]) (As := [.int 15, .int 1]) (rest := []) hI (c_Head_set (ah := ad 5) (av := ad 6) (ar := ad 7) (cv := cd 3) (cr := cd 4) (tv := 3) (tr := 4) rfl rfl (rVs st, rVr st) 15 1) (cw_V (C := "HeadDesk$Head") 2 hts m_92 m_94 m_95 m_40 m_93 (by decide +kernel) ⟨by decide, by decide⟩) hX hA hP hD hS [5, 6, 7] [0, 1, 2, 3, 4] rfl rfl (by decide) (by decide) (by decide) (va_recv hX.1 hP (ci := 0) (q0 := 5) rfl rfl) rfl hl.1 rfl (Nat.le_of_ble_eq_true rfl) d_Reader_countBare_46 ⟨Nat.zero_le _, Nat.zero_le _⟩ (fun H locs hP hD hS => ?_)
          obtain ⟨s_46, e_46⟩ : ∃ z : RS, z = sVs st (hSet (rVs st) 15 1) := ⟨_, rfl⟩
          have hP : va_P D vwCl (rdW ad cd T s_46) H := by rw [e_46]; exact hP.sub [0, 1, 2, 3, 4, 5, 6, 7] rfl
          have hD : va_D A (rdW ad cd T s_46) := by rw [e_46]; exact hD.sub [0, 1, 2, 3, 4, 5, 6, 7] (by decide) rfl
          refine lv_goto (tgt := 94) hx hb d_Reader_countBare_49 (by decide) ?_
          exact hret H locs s_46 _ _ hP hD hS (by first | (simp only [fBare, c_6, if_pos c_27, c_36, ← e_46, fStop, if_true, if_false, Bool.false_eq_true, ↓reduceIte]; done) | (simp only [fBare, c_6, if_pos c_27, c_36, ← e_46, fStop, if_true, if_false, Bool.false_eq_true, ↓reduceIte]; with_reducible rfl) | (simp only [fBare, c_6, if_pos c_27, c_36, ← e_46, fStop, if_true, if_false, Bool.false_eq_true, ↓reduceIte]; rw [e_46])) d_Reader_countBare_94
    · skip
      have c_6 : (fIsW T st t_no_cache) = true := bI_1 c_6
      refine lv_aload_n hx hb d_Reader_countBare_9 rfl (lv_at hl 0 rfl) ?_
      refine va_get (D := D) (ci := 1) (v := .ref (ad 5)) (C := "HeadDesk$Reader") (T := F_Reader) (N := 11) hx hb hts a_Reader hown hX.1 hP 0 rfl rfl 3 (by decide) (hts _ m_91) (fun _ h9 => h9) rfl d_Reader_countBare_10 ?_
      refine lv_bipush (v := 10) hx hb d_Reader_countBare_13 (by decide) ?_
      refine lv_iconst (v := 1) hx hb d_Reader_countBare_15 (by decide) ?_
      refine hx_Vv (wr := [(ad 0, .inr (1, [.ref (ad 1), .ref (ad 3), .ref (ad 4), .ref (ad 5), .int (rNm st), .int (rKd st), .int (rPl st), .int (rSk st), .int (rNb st), .int (rWs st), .int (rWe st)])), (ad 1, .inr (2, [.ref (ad 2), .int (T.2)])), (ad 2, .inl (cd 0, 300, .inl T.1)), (ad 3, .inl (cd 1, 100, .inl (rNs st))), (ad 4, .inl (cd 2, 100, .inl (rNe st)))]) (As := [.int 10, .int 1]) (rest := []) hI (c_Head_set (ah := ad 5) (av := ad 6) (ar := ad 7) (cv := cd 3) (cr := cd 4) (tv := 3) (tr := 4) rfl rfl (rVs st, rVr st) 10 1) (cw_V (C := "HeadDesk$Head") 2 hts m_92 m_94 m_95 m_40 m_93 (by decide +kernel) ⟨by decide, by decide⟩) hX hA hP hD hS [5, 6, 7] [0, 1, 2, 3, 4] rfl rfl (by decide) (by decide) (by decide) (va_recv hX.1 hP (ci := 0) (q0 := 5) rfl rfl) rfl hl.1 rfl (Nat.le_of_ble_eq_true rfl) d_Reader_countBare_16 ⟨Nat.zero_le _, Nat.zero_le _⟩ (fun H locs hP hD hS => ?_)
      obtain ⟨s_16, e_16⟩ : ∃ z : RS, z = sVs st (hSet (rVs st) 10 1) := ⟨_, rfl⟩
      have hP : va_P D vwCl (rdW ad cd T s_16) H := by rw [e_16]; exact hP.sub [0, 1, 2, 3, 4, 5, 6, 7] rfl
      have hD : va_D A (rdW ad cd T s_16) := by rw [e_16]; exact hD.sub [0, 1, 2, 3, 4, 5, 6, 7] (by decide) rfl
      refine lv_goto (tgt := 94) hx hb d_Reader_countBare_19 (by decide) ?_
      exact hret H locs s_16 _ _ hP hD hS (by first | (simp only [fBare, c_6, ← e_16, fStop, if_true, if_false, Bool.false_eq_true, ↓reduceIte]; done) | (simp only [fBare, c_6, ← e_16, fStop, if_true, if_false, Bool.false_eq_true, ↓reduceIte]; with_reducible rfl) | (simp only [fBare, c_6, ← e_16, fStop, if_true, if_false, Bool.false_eq_true, ↓reduceIte]; rw [e_16])) d_Reader_countBare_94
  rw [hH, hlo] at goal
  exact goal
set_option maxHeartbeats 4000000 in
set_option maxRecDepth 100000 in
theorem c_Reader_countWithNumber (hT : T.2 ≤ 300) (st : RS)  : hx_Mv l D (tyH cd) adK adV tF (rdW ad cd T) y_Reader_countWithNumber w_Reader_countWithNumber (rmD 6) [.ref (ad 0)] st (fWith T st) := by
  refine hx_Mv.of (cc := b_Reader_countWithNumber) (maxL := 1) (by decide) rfl (Nat.le_of_ble_eq_true rfl) ?_
  intro p e s m below meth c A Q ls hI hX hA hP hD hS hl hret
  obtain ⟨hx, hb, hml, hown, hts⟩ := id hI
  have hts : ∀ w ∈ aw, w.before ([.ref (ad 0)] : List Value).toArray s = true := fun w h => hts w (List.mem_cons_of_mem _ h)
  have hown : s.vm.findClass "HeadDesk$Reader" = some m.cls := hown
  have hI : hx_In p s m ([.ref (ad 0)] : List Value).toArray c b_Reader_countWithNumber 1 "HeadDesk$Reader" aw := ⟨hx, hb, hml, hown, hts⟩
  have hP : va_P D vwCl (rdW ad cd T st) s.heap := hP
  obtain ⟨H, hH⟩ : ∃ H, H = s.heap := ⟨_, rfl⟩
  obtain ⟨locs, hlo⟩ : ∃ locs : List Loc, locs = [] := ⟨_, rfl⟩
  have hS : va_S A s.heap H locs := by rw [hH, hlo]; exact hS
  have hP : va_P D vwCl (rdW ad cd T st) H := by rw [hH]; exact hP
  have hl : lv_has ls 1 [(0, .ref (ad 0))] := hl
  have goal : W p l e (rmD 6) s m ([.ref (ad 0)] : List Value).toArray below meth c H locs 0 0 Q (F0 m 0 ls []) := by
    refine lv_aload_n hx hb d_Reader_countWithNumber_0 rfl (lv_at hl 0 rfl) ?_
    refine va_ldcS hx hb hown (hX.2.2.2.2.2.1 _ _ _ _ st_9) d_Reader_countWithNumber_1 ?_
    refine hx_Vz (wr := []) (As := [.ref (adK 9)]) (rest := []) hI (c_Reader_isWordL hT st (by decide) sw_9) (cw_V (C := "HeadDesk$Reader") 1 hts m_86 m_88 m_89 m_57 m_87 (by decide +kernel) ⟨by decide, by decide⟩) hX hA hP hD hS [0, 1, 2, 3, 4, 5, 6, 7] [] rfl rfl (by decide) (by decide) (by decide) (va_recv hX.1 hP (ci := 1) (q0 := 0) rfl rfl) rfl hl.1 rfl (Nat.le_of_ble_eq_true rfl) d_Reader_countWithNumber_3 ⟨Nat.zero_le _, Nat.zero_le _⟩ (fun H locs hP hD hS => ?_)
    have hP : va_P D vwCl (rdW ad cd T st) H := hP
    have hD : va_D A (rdW ad cd T st) := hD
    refine lv_if_eq (tgt := 25) hx hb d_Reader_countWithNumber_6 (by decide) (fun c_6 => ?_) (fun c_6 => ?_)
    · skip
      have c_6 : (fIsW T st t_max_age) = false := bI_0 c_6
      refine lv_aload_n hx hb d_Reader_countWithNumber_25 rfl (lv_at hl 0 rfl) ?_
      refine va_get (D := D) (ci := 1) (v := .int (rKd st)) (C := "HeadDesk$Reader") (T := F_Reader) (N := 11) hx hb hts a_Reader hown hX.1 hP 0 rfl rfl 5 (by decide) (hts _ m_90) (fun _ h9 => h9) rfl d_Reader_countWithNumber_26 ?_
      refine lv_iconst (v := 1) hx hb d_Reader_countWithNumber_29 (by decide) ?_
      refine lv_icmp_ne (tgt := 83) hx hb d_Reader_countWithNumber_30 (by decide) (fun c_30 => ?_) (fun c_30 => ?_)
      · skip
        have c_30 : ¬ (rKd st = 1) := c_30
        refine lv_aload_n hx hb d_Reader_countWithNumber_83 rfl (lv_at hl 0 rfl) ?_
        refine va_ldcS hx hb hown (hX.2.2.2.2.2.1 _ _ _ _ st_8) d_Reader_countWithNumber_84 ?_
        refine hx_Vz (wr := []) (As := [.ref (adK 8)]) (rest := []) hI (c_Reader_isWordL hT st (by decide) sw_8) (cw_V (C := "HeadDesk$Reader") 1 hts m_86 m_88 m_89 m_57 m_87 (by decide +kernel) ⟨by decide, by decide⟩) hX hA hP hD hS [0, 1, 2, 3, 4, 5, 6, 7] [] rfl rfl (by decide) (by decide) (by decide) (va_recv hX.1 hP (ci := 1) (q0 := 0) rfl rfl) rfl hl.1 rfl (Nat.le_of_ble_eq_true rfl) d_Reader_countWithNumber_86 ⟨Nat.zero_le _, Nat.zero_le _⟩ (fun H locs hP hD hS => ?_)
        have hP : va_P D vwCl (rdW ad cd T st) H := hP
        have hD : va_D A (rdW ad cd T st) := hD
        refine lv_if_eq (tgt := 108) hx hb d_Reader_countWithNumber_89 (by decide) (fun c_89 => ?_) (fun c_89 => ?_)
        · skip
          have c_89 : (fIsW T st t_max_stale) = false := bI_0 c_89
          refine lv_aload_n hx hb d_Reader_countWithNumber_108 rfl (lv_at hl 0 rfl) ?_
          refine va_ldcS hx hb hown (hX.2.2.2.2.2.1 _ _ _ _ st_12) d_Reader_countWithNumber_109 ?_
          refine hx_Vz (wr := []) (As := [.ref (adK 12)]) (rest := []) hI (c_Reader_isWordL hT st (by decide) sw_12) (cw_V (C := "HeadDesk$Reader") 1 hts m_86 m_88 m_89 m_57 m_87 (by decide +kernel) ⟨by decide, by decide⟩) hX hA hP hD hS [0, 1, 2, 3, 4, 5, 6, 7] [] rfl rfl (by decide) (by decide) (by decide) (va_recv hX.1 hP (ci := 1) (q0 := 0) rfl rfl) rfl hl.1 rfl (Nat.le_of_ble_eq_true rfl) d_Reader_countWithNumber_111 ⟨Nat.zero_le _, Nat.zero_le _⟩ (fun H locs hP hD hS => ?_)
          have hP : va_P D vwCl (rdW ad cd T st) H := hP
          have hD : va_D A (rdW ad cd T st) := hD
          refine lv_if_eq (tgt := 130) hx hb d_Reader_countWithNumber_114 (by decide) (fun c_114 => ?_) (fun c_114 => ?_)
          · skip
            have c_114 : (fIsW T st t_min_fresh) = false := bI_0 c_114
            exact hret H locs st _ _ hP hD hS (by first | (simp only [fWith, c_6, if_neg c_30, c_89, c_114, fStop, if_true, if_false, Bool.false_eq_true, ↓reduceIte]; done) | (simp only [fWith, c_6, if_neg c_30, c_89, c_114, fStop, if_true, if_false, Bool.false_eq_true, ↓reduceIte]; with_reducible rfl)) d_Reader_countWithNumber_130
          · skip
            have c_114 : (fIsW T st t_min_fresh) = true := bI_1 c_114
            refine lv_aload_n hx hb d_Reader_countWithNumber_117 rfl (lv_at hl 0 rfl) ?_
            refine va_get (D := D) (ci := 1) (v := .ref (ad 5)) (C := "HeadDesk$Reader") (T := F_Reader) (N := 11) hx hb hts a_Reader hown hX.1 hP 0 rfl rfl 3 (by decide) (hts _ m_91) (fun _ h9 => h9) rfl d_Reader_countWithNumber_118 ?_
            refine lv_bipush (v := 14) hx hb d_Reader_countWithNumber_121 (by decide) ?_
            refine lv_aload_n hx hb d_Reader_countWithNumber_123 rfl (lv_at hl 0 rfl) ?_
            refine va_get (D := D) (ci := 1) (v := .int (rNb st)) (C := "HeadDesk$Reader") (T := F_Reader) (N := 11) hx hb hts a_Reader hown hX.1 hP 0 rfl rfl 8 (by decide) (hts _ m_62) (fun _ h9 => h9) rfl d_Reader_countWithNumber_124 ?_
            refine hx_Vv (wr := [(ad 0, .inr (1, [.ref (ad 1), .ref (ad 3), .ref (ad 4), .ref (ad 5), .int (rNm st), .int (rKd st), .int (rPl st), .int (rSk st), .int (rNb st), .int (rWs st), .int (rWe st)])), (ad 1, .inr (2, [.ref (ad 2), .int (T.2)])), (ad 2, .inl (cd 0, 300, .inl T.1)), (ad 3, .inl (cd 1, 100, .inl (rNs st))), (ad 4, .inl (cd 2, 100, .inl (rNe st)))]) (As := [.int 14, .int (rNb st)]) (rest := []) hI (c_Head_set (ah := ad 5) (av := ad 6) (ar := ad 7) (cv := cd 3) (cr := cd 4) (tv := 3) (tr := 4) rfl rfl (rVs st, rVr st) 14 (rNb st)) (cw_V (C := "HeadDesk$Head") 2 hts m_92 m_94 m_95 m_40 m_93 (by decide +kernel) ⟨by decide, by decide⟩) hX hA hP hD hS [5, 6, 7] [0, 1, 2, 3, 4] rfl rfl (by decide) (by decide) (by decide) (va_recv hX.1 hP (ci := 0) (q0 := 5) rfl rfl) rfl hl.1 rfl (Nat.le_of_ble_eq_true rfl) d_Reader_countWithNumber_127 ⟨Nat.zero_le _, Nat.zero_le _⟩ (fun H locs hP hD hS => ?_)
            obtain ⟨s_127, e_127⟩ : ∃ z : RS, z = sVs st (hSet (rVs st) 14 (rNb st)) := ⟨_, rfl⟩
            have hP : va_P D vwCl (rdW ad cd T s_127) H := by rw [e_127]; exact hP.sub [0, 1, 2, 3, 4, 5, 6, 7] rfl
            have hD : va_D A (rdW ad cd T s_127) := by rw [e_127]; exact hD.sub [0, 1, 2, 3, 4, 5, 6, 7] (by decide) rfl
            exact hret H locs s_127 _ _ hP hD hS (by first | (simp only [fWith, c_6, if_neg c_30, c_89, c_114, ← e_127, fStop, if_true, if_false, Bool.false_eq_true, ↓reduceIte]; done) | (simp only [fWith, c_6, if_neg c_30, c_89, c_114, ← e_127, fStop, if_true, if_false, Bool.false_eq_true, ↓reduceIte]; with_reducible rfl) | (simp only [fWith, c_6, if_neg c_30, c_89, c_114, ← e_127, fStop, if_true, if_false, Bool.false_eq_true, ↓reduceIte]; rw [e_127])) d_Reader_countWithNumber_130
        · skip
          have c_89 : (fIsW T st t_max_stale) = true := bI_1 c_89
          refine lv_aload_n hx hb d_Reader_countWithNumber_92 rfl (lv_at hl 0 rfl) ?_
          refine va_get (D := D) (ci := 1) (v := .ref (ad 5)) (C := "HeadDesk$Reader") (T := F_Reader) (N := 11) hx hb hts a_Reader hown hX.1 hP 0 rfl rfl 3 (by decide) (hts _ m_91) (fun _ h9 => h9) rfl d_Reader_countWithNumber_93 ?_
          refine lv_bipush (v := 13) hx hb d_Reader_countWithNumber_96 (by decide) ?_
          refine lv_aload_n hx hb d_Reader_countWithNumber_98 rfl (lv_at hl 0 rfl) ?_
          refine va_get (D := D) (ci := 1) (v := .int (rNb st)) (C := "HeadDesk$Reader") (T := F_Reader) (N := 11) hx hb hts a_Reader hown hX.1 hP 0 rfl rfl 8 (by decide) (hts _ m_62) (fun _ h9 => h9) rfl d_Reader_countWithNumber_99 ?_
          refine hx_Vv (wr := [(ad 0, .inr (1, [.ref (ad 1), .ref (ad 3), .ref (ad 4), .ref (ad 5), .int (rNm st), .int (rKd st), .int (rPl st), .int (rSk st), .int (rNb st), .int (rWs st), .int (rWe st)])), (ad 1, .inr (2, [.ref (ad 2), .int (T.2)])), (ad 2, .inl (cd 0, 300, .inl T.1)), (ad 3, .inl (cd 1, 100, .inl (rNs st))), (ad 4, .inl (cd 2, 100, .inl (rNe st)))]) (As := [.int 13, .int (rNb st)]) (rest := []) hI (c_Head_set (ah := ad 5) (av := ad 6) (ar := ad 7) (cv := cd 3) (cr := cd 4) (tv := 3) (tr := 4) rfl rfl (rVs st, rVr st) 13 (rNb st)) (cw_V (C := "HeadDesk$Head") 2 hts m_92 m_94 m_95 m_40 m_93 (by decide +kernel) ⟨by decide, by decide⟩) hX hA hP hD hS [5, 6, 7] [0, 1, 2, 3, 4] rfl rfl (by decide) (by decide) (by decide) (va_recv hX.1 hP (ci := 0) (q0 := 5) rfl rfl) rfl hl.1 rfl (Nat.le_of_ble_eq_true rfl) d_Reader_countWithNumber_102 ⟨Nat.zero_le _, Nat.zero_le _⟩ (fun H locs hP hD hS => ?_)
          obtain ⟨s_102, e_102⟩ : ∃ z : RS, z = sVs st (hSet (rVs st) 13 (rNb st)) := ⟨_, rfl⟩
          have hP : va_P D vwCl (rdW ad cd T s_102) H := by rw [e_102]; exact hP.sub [0, 1, 2, 3, 4, 5, 6, 7] rfl
          have hD : va_D A (rdW ad cd T s_102) := by rw [e_102]; exact hD.sub [0, 1, 2, 3, 4, 5, 6, 7] (by decide) rfl
          refine lv_goto (tgt := 130) hx hb d_Reader_countWithNumber_105 (by decide) ?_
          exact hret H locs s_102 _ _ hP hD hS (by first | (simp only [fWith, c_6, if_neg c_30, c_89, ← e_102, fStop, if_true, if_false, Bool.false_eq_true, ↓reduceIte]; done) | (simp only [fWith, c_6, if_neg c_30, c_89, ← e_102, fStop, if_true, if_false, Bool.false_eq_true, ↓reduceIte]; with_reducible rfl) | (simp only [fWith, c_6, if_neg c_30, c_89, ← e_102, fStop, if_true, if_false, Bool.false_eq_true, ↓reduceIte]; rw [e_102])) d_Reader_countWithNumber_130
      · skip
        have c_30 : (rKd st = 1) := c_30
        refine lv_aload_n hx hb d_Reader_countWithNumber_33 rfl (lv_at hl 0 rfl) ?_
        refine va_ldcS hx hb hown (hX.2.2.2.2.2.1 _ _ _ _ st_10) d_Reader_countWithNumber_34 ?_
        refine hx_Vz (wr := []) (As := [.ref (adK 10)]) (rest := []) hI (c_Reader_isWordL hT st (by decide) sw_10) (cw_V (C := "HeadDesk$Reader") 1 hts m_86 m_88 m_89 m_57 m_87 (by decide +kernel) ⟨by decide, by decide⟩) hX hA hP hD hS [0, 1, 2, 3, 4, 5, 6, 7] [] rfl rfl (by decide) (by decide) (by decide) (va_recv hX.1 hP (ci := 1) (q0 := 0) rfl rfl) rfl hl.1 rfl (Nat.le_of_ble_eq_true rfl) d_Reader_countWithNumber_36 ⟨Nat.zero_le _, Nat.zero_le _⟩ (fun H locs hP hD hS => ?_)
        have hP : va_P D vwCl (rdW ad cd T st) H := hP
        have hD : va_D A (rdW ad cd T st) := hD
        refine lv_if_eq (tgt := 58) hx hb d_Reader_countWithNumber_39 (by decide) (fun c_39 => ?_) (fun c_39 => ?_)
        · skip
          have c_39 : (fIsW T st t_stale_if_error) = false := bI_0 c_39
          refine lv_aload_n hx hb d_Reader_countWithNumber_58 rfl (lv_at hl 0 rfl) ?_
          refine va_ldcS hx hb hown (hX.2.2.2.2.2.1 _ _ _ _ st_11) d_Reader_countWithNumber_59 ?_
          refine hx_Vz (wr := []) (As := [.ref (adK 11)]) (rest := []) hI (c_Reader_isWordL hT st (by decide) sw_11) (cw_V (C := "HeadDesk$Reader") 1 hts m_86 m_88 m_89 m_57 m_87 (by decide +kernel) ⟨by decide, by decide⟩) hX hA hP hD hS [0, 1, 2, 3, 4, 5, 6, 7] [] rfl rfl (by decide) (by decide) (by decide) (va_recv hX.1 hP (ci := 1) (q0 := 0) rfl rfl) rfl hl.1 rfl (Nat.le_of_ble_eq_true rfl) d_Reader_countWithNumber_61 ⟨Nat.zero_le _, Nat.zero_le _⟩ (fun H locs hP hD hS => ?_)
          have hP : va_P D vwCl (rdW ad cd T st) H := hP
          have hD : va_D A (rdW ad cd T st) := hD
          refine lv_if_eq (tgt := 130) hx hb d_Reader_countWithNumber_64 (by decide) (fun c_64 => ?_) (fun c_64 => ?_)
          · skip
            have c_64 : (fIsW T st t_stale_while_revalidate) = false := bI_0 c_64
            exact hret H locs st _ _ hP hD hS (by first | (simp only [fWith, c_6, if_pos c_30, c_39, c_64, fStop, if_true, if_false, Bool.false_eq_true, ↓reduceIte]; done) | (simp only [fWith, c_6, if_pos c_30, c_39, c_64, fStop, if_true, if_false, Bool.false_eq_true, ↓reduceIte]; with_reducible rfl)) d_Reader_countWithNumber_130
          · skip
            have c_64 : (fIsW T st t_stale_while_revalidate) = true := bI_1 c_64
            refine lv_aload_n hx hb d_Reader_countWithNumber_67 rfl (lv_at hl 0 rfl) ?_
            refine va_get (D := D) (ci := 1) (v := .ref (ad 5)) (C := "HeadDesk$Reader") (T := F_Reader) (N := 11) hx hb hts a_Reader hown hX.1 hP 0 rfl rfl 3 (by decide) (hts _ m_91) (fun _ h9 => h9) rfl d_Reader_countWithNumber_68 ?_
            refine lv_bipush (v := 17) hx hb d_Reader_countWithNumber_71 (by decide) ?_
            refine lv_aload_n hx hb d_Reader_countWithNumber_73 rfl (lv_at hl 0 rfl) ?_
            refine va_get (D := D) (ci := 1) (v := .int (rNb st)) (C := "HeadDesk$Reader") (T := F_Reader) (N := 11) hx hb hts a_Reader hown hX.1 hP 0 rfl rfl 8 (by decide) (hts _ m_62) (fun _ h9 => h9) rfl d_Reader_countWithNumber_74 ?_
            refine hx_Vv (wr := [(ad 0, .inr (1, [.ref (ad 1), .ref (ad 3), .ref (ad 4), .ref (ad 5), .int (rNm st), .int (rKd st), .int (rPl st), .int (rSk st), .int (rNb st), .int (rWs st), .int (rWe st)])), (ad 1, .inr (2, [.ref (ad 2), .int (T.2)])), (ad 2, .inl (cd 0, 300, .inl T.1)), (ad 3, .inl (cd 1, 100, .inl (rNs st))), (ad 4, .inl (cd 2, 100, .inl (rNe st)))]) (As := [.int 17, .int (rNb st)]) (rest := []) hI (c_Head_set (ah := ad 5) (av := ad 6) (ar := ad 7) (cv := cd 3) (cr := cd 4) (tv := 3) (tr := 4) rfl rfl (rVs st, rVr st) 17 (rNb st)) (cw_V (C := "HeadDesk$Head") 2 hts m_92 m_94 m_95 m_40 m_93 (by decide +kernel) ⟨by decide, by decide⟩) hX hA hP hD hS [5, 6, 7] [0, 1, 2, 3, 4] rfl rfl (by decide) (by decide) (by decide) (va_recv hX.1 hP (ci := 0) (q0 := 5) rfl rfl) rfl hl.1 rfl (Nat.le_of_ble_eq_true rfl) d_Reader_countWithNumber_77 ⟨Nat.zero_le _, Nat.zero_le _⟩ (fun H locs hP hD hS => ?_)
            obtain ⟨s_77, e_77⟩ : ∃ z : RS, z = sVs st (hSet (rVs st) 17 (rNb st)) := ⟨_, rfl⟩
            have hP : va_P D vwCl (rdW ad cd T s_77) H := by rw [e_77]; exact hP.sub [0, 1, 2, 3, 4, 5, 6, 7] rfl
            have hD : va_D A (rdW ad cd T s_77) := by rw [e_77]; exact hD.sub [0, 1, 2, 3, 4, 5, 6, 7] (by decide) rfl
            refine lv_goto (tgt := 130) hx hb d_Reader_countWithNumber_80 (by decide) ?_
            exact hret H locs s_77 _ _ hP hD hS (by first | (simp only [fWith, c_6, if_pos c_30, c_39, c_64, ← e_77, fStop, if_true, if_false, Bool.false_eq_true, ↓reduceIte]; done) | (simp only [fWith, c_6, if_pos c_30, c_39, c_64, ← e_77, fStop, if_true, if_false, Bool.false_eq_true, ↓reduceIte]; with_reducible rfl) | (simp only [fWith, c_6, if_pos c_30, c_39, c_64, ← e_77, fStop, if_true, if_false, Bool.false_eq_true, ↓reduceIte]; rw [e_77])) d_Reader_countWithNumber_130
        · skip
          have c_39 : (fIsW T st t_stale_if_error) = true := bI_1 c_39
          refine lv_aload_n hx hb d_Reader_countWithNumber_42 rfl (lv_at hl 0 rfl) ?_
          refine va_get (D := D) (ci := 1) (v := .ref (ad 5)) (C := "HeadDesk$Reader") (T := F_Reader) (N := 11) hx hb hts a_Reader hown hX.1 hP 0 rfl rfl 3 (by decide) (hts _ m_91) (fun _ h9 => h9) rfl d_Reader_countWithNumber_43 ?_
          refine lv_bipush (v := 16) hx hb d_Reader_countWithNumber_46 (by decide) ?_
          refine lv_aload_n hx hb d_Reader_countWithNumber_48 rfl (lv_at hl 0 rfl) ?_
          refine va_get (D := D) (ci := 1) (v := .int (rNb st)) (C := "HeadDesk$Reader") (T := F_Reader) (N := 11) hx hb hts a_Reader hown hX.1 hP 0 rfl rfl 8 (by decide) (hts _ m_62) (fun _ h9 => h9) rfl d_Reader_countWithNumber_49 ?_
          refine hx_Vv (wr := [(ad 0, .inr (1, [.ref (ad 1), .ref (ad 3), .ref (ad 4), .ref (ad 5), .int (rNm st), .int (rKd st), .int (rPl st), .int (rSk st), .int (rNb st), .int (rWs st), .int (rWe st)])), (ad 1, .inr (2, [.ref (ad 2), .int (T.2)])), (ad 2, .inl (cd 0, 300, .inl T.1)), (ad 3, .inl (cd 1, 100, .inl (rNs st))), (ad 4, .inl (cd 2, 100, .inl (rNe st)))]) (As := [.int 16, .int (rNb st)]) (rest := []) hI (c_Head_set (ah := ad 5) (av := ad 6) (ar := ad 7) (cv := cd 3) (cr := cd 4) (tv := 3) (tr := 4) rfl rfl (rVs st, rVr st) 16 (rNb st)) (cw_V (C := "HeadDesk$Head") 2 hts m_92 m_94 m_95 m_40 m_93 (by decide +kernel) ⟨by decide, by decide⟩) hX hA hP hD hS [5, 6, 7] [0, 1, 2, 3, 4] rfl rfl (by decide) (by decide) (by decide) (va_recv hX.1 hP (ci := 0) (q0 := 5) rfl rfl) rfl hl.1 rfl (Nat.le_of_ble_eq_true rfl) d_Reader_countWithNumber_52 ⟨Nat.zero_le _, Nat.zero_le _⟩ (fun H locs hP hD hS => ?_)
          obtain ⟨s_52, e_52⟩ : ∃ z : RS, z = sVs st (hSet (rVs st) 16 (rNb st)) := ⟨_, rfl⟩
          have hP : va_P D vwCl (rdW ad cd T s_52) H := by rw [e_52]; exact hP.sub [0, 1, 2, 3, 4, 5, 6, 7] rfl
          have hD : va_D A (rdW ad cd T s_52) := by rw [e_52]; exact hD.sub [0, 1, 2, 3, 4, 5, 6, 7] (by decide) rfl
          refine lv_goto (tgt := 130) hx hb d_Reader_countWithNumber_55 (by decide) ?_
          exact hret H locs s_52 _ _ hP hD hS (by first | (simp only [fWith, c_6, if_pos c_30, c_39, ← e_52, fStop, if_true, if_false, Bool.false_eq_true, ↓reduceIte]; done) | (simp only [fWith, c_6, if_pos c_30, c_39, ← e_52, fStop, if_true, if_false, Bool.false_eq_true, ↓reduceIte]; with_reducible rfl) | (simp only [fWith, c_6, if_pos c_30, c_39, ← e_52, fStop, if_true, if_false, Bool.false_eq_true, ↓reduceIte]; rw [e_52])) d_Reader_countWithNumber_130
    · skip
      have c_6 : (fIsW T st t_max_age) = true := bI_1 c_6
      refine lv_aload_n hx hb d_Reader_countWithNumber_9 rfl (lv_at hl 0 rfl) ?_
      refine va_get (D := D) (ci := 1) (v := .ref (ad 5)) (C := "HeadDesk$Reader") (T := F_Reader) (N := 11) hx hb hts a_Reader hown hX.1 hP 0 rfl rfl 3 (by decide) (hts _ m_91) (fun _ h9 => h9) rfl d_Reader_countWithNumber_10 ?_
      refine lv_bipush (v := 12) hx hb d_Reader_countWithNumber_13 (by decide) ?_
      refine lv_aload_n hx hb d_Reader_countWithNumber_15 rfl (lv_at hl 0 rfl) ?_
      refine va_get (D := D) (ci := 1) (v := .int (rNb st)) (C := "HeadDesk$Reader") (T := F_Reader) (N := 11) hx hb hts a_Reader hown hX.1 hP 0 rfl rfl 8 (by decide) (hts _ m_62) (fun _ h9 => h9) rfl d_Reader_countWithNumber_16 ?_
      refine hx_Vv (wr := [(ad 0, .inr (1, [.ref (ad 1), .ref (ad 3), .ref (ad 4), .ref (ad 5), .int (rNm st), .int (rKd st), .int (rPl st), .int (rSk st), .int (rNb st), .int (rWs st), .int (rWe st)])), (ad 1, .inr (2, [.ref (ad 2), .int (T.2)])), (ad 2, .inl (cd 0, 300, .inl T.1)), (ad 3, .inl (cd 1, 100, .inl (rNs st))), (ad 4, .inl (cd 2, 100, .inl (rNe st)))]) (As := [.int 12, .int (rNb st)]) (rest := []) hI (c_Head_set (ah := ad 5) (av := ad 6) (ar := ad 7) (cv := cd 3) (cr := cd 4) (tv := 3) (tr := 4) rfl rfl (rVs st, rVr st) 12 (rNb st)) (cw_V (C := "HeadDesk$Head") 2 hts m_92 m_94 m_95 m_40 m_93 (by decide +kernel) ⟨by decide, by decide⟩) hX hA hP hD hS [5, 6, 7] [0, 1, 2, 3, 4] rfl rfl (by decide) (by decide) (by decide) (va_recv hX.1 hP (ci := 0) (q0 := 5) rfl rfl) rfl hl.1 rfl (Nat.le_of_ble_eq_true rfl) d_Reader_countWithNumber_19 ⟨Nat.zero_le _, Nat.zero_le _⟩ (fun H locs hP hD hS => ?_)
      obtain ⟨s_19, e_19⟩ : ∃ z : RS, z = sVs st (hSet (rVs st) 12 (rNb st)) := ⟨_, rfl⟩
      have hP : va_P D vwCl (rdW ad cd T s_19) H := by rw [e_19]; exact hP.sub [0, 1, 2, 3, 4, 5, 6, 7] rfl
      have hD : va_D A (rdW ad cd T s_19) := by rw [e_19]; exact hD.sub [0, 1, 2, 3, 4, 5, 6, 7] (by decide) rfl
      refine lv_goto (tgt := 130) hx hb d_Reader_countWithNumber_22 (by decide) ?_
      exact hret H locs s_19 _ _ hP hD hS (by first | (simp only [fWith, c_6, ← e_19, fStop, if_true, if_false, Bool.false_eq_true, ↓reduceIte]; done) | (simp only [fWith, c_6, ← e_19, fStop, if_true, if_false, Bool.false_eq_true, ↓reduceIte]; with_reducible rfl) | (simp only [fWith, c_6, ← e_19, fStop, if_true, if_false, Bool.false_eq_true, ↓reduceIte]; rw [e_19])) d_Reader_countWithNumber_130
  rw [hH, hlo] at goal
  exact goal
end
section
variable {l : Launch} {D : va_G} {ad : Nat → Nat} {cd : Nat → ClassId} {adK adV : Nat → Nat} {tF : Nat} {T : TX} {tys : List (ClassId × FieldType)}

set_option maxHeartbeats 4000000 in
set_option maxRecDepth 100000 in
theorem c_Reader_readLength (hT : T.2 ≤ 300) (st : RS)  : hx_Mz l D (tyH cd) adK adV tF (rdW ad cd T) y_Reader_readLength w_Reader_readLength (rmD 4) [.ref (ad 0)] st ((fLen T st).1) ((fLen T st).2) := by
  refine hx_Mz.of (cc := b_Reader_readLength) (maxL := 1) (by decide) rfl (Nat.le_of_ble_eq_true rfl) ?_
  intro p e s m below meth c A Q ls hI hX hA hP hD hS hl hret
  obtain ⟨hx, hb, hml, hown, hts⟩ := id hI
  have hts : ∀ w ∈ aw, w.before ([.ref (ad 0)] : List Value).toArray s = true := fun w h => hts w (List.mem_cons_of_mem _ h)
  have hown : s.vm.findClass "HeadDesk$Reader" = some m.cls := hown
  have hI : hx_In p s m ([.ref (ad 0)] : List Value).toArray c b_Reader_readLength 1 "HeadDesk$Reader" aw := ⟨hx, hb, hml, hown, hts⟩
  have hP : va_P D vwCl (rdW ad cd T st) s.heap := hP
  obtain ⟨H, hH⟩ : ∃ H, H = s.heap := ⟨_, rfl⟩
  obtain ⟨locs, hlo⟩ : ∃ locs : List Loc, locs = [] := ⟨_, rfl⟩
  have hS : va_S A s.heap H locs := by rw [hH, hlo]; exact hS
  have hP : va_P D vwCl (rdW ad cd T st) H := by rw [hH]; exact hP
  have hl : lv_has ls 1 [(0, .ref (ad 0))] := hl
  have goal : W p l e (rmD 4) s m ([.ref (ad 0)] : List Value).toArray below meth c H locs 0 0 Q (F0 m 0 ls []) := by
    refine lv_aload_n hx hb d_Reader_readLength_0 rfl (lv_at hl 0 rfl) ?_
    refine lv_sipush (v := 255) hx hb d_Reader_readLength_1 (by decide) ?_
    refine hx_Vz (wr := []) (As := [.int 255]) (rest := []) hI (c_Reader_takeNumber hT st 255) (cw_V (C := "HeadDesk$Reader") 1 hts m_96 m_98 m_99 m_57 m_97 (by decide +kernel) ⟨by decide, by decide⟩) hX hA hP hD hS [0, 1, 2, 3, 4, 5, 6, 7] [] rfl rfl (by decide) (by decide) (by decide) (va_recv hX.1 hP (ci := 1) (q0 := 0) rfl rfl) rfl hl.1 rfl (Nat.le_of_ble_eq_true rfl) d_Reader_readLength_4 ⟨Nat.zero_le _, Nat.zero_le _⟩ (fun H locs hP hD hS => ?_)
    obtain ⟨s_4, e_4⟩ : ∃ z : RS, z = (fNum T st 255).2 := ⟨_, rfl⟩
    have hP : va_P D vwCl (rdW ad cd T s_4) H := by rw [e_4]; exact hP
    have hD : va_D A (rdW ad cd T s_4) := by rw [e_4]; exact hD
    refine lv_if_ne (tgt := 12) hx hb d_Reader_readLength_7 (by decide) (fun c_7 => ?_) (fun c_7 => ?_)
    · skip
      have c_7 : ((fNum T st 255).1) = true := bI_1 c_7
      refine lv_aload_n hx hb d_Reader_readLength_12 rfl (lv_at hl 0 rfl) ?_
      refine va_get (D := D) (ci := 1) (v := .ref (ad 5)) (C := "HeadDesk$Reader") (T := F_Reader) (N := 11) hx hb hts a_Reader hown hX.1 hP 0 rfl rfl 3 (by decide) (hts _ m_91) (fun _ h9 => h9) rfl d_Reader_readLength_13 ?_
      refine lv_bipush (v := 8) hx hb d_Reader_readLength_16 (by decide) ?_
      refine lv_aload_n hx hb d_Reader_readLength_18 rfl (lv_at hl 0 rfl) ?_
      refine va_get (D := D) (ci := 1) (v := .int (rNb s_4)) (C := "HeadDesk$Reader") (T := F_Reader) (N := 11) hx hb hts a_Reader hown hX.1 hP 0 rfl rfl 8 (by decide) (hts _ m_62) (fun _ h9 => h9) rfl d_Reader_readLength_19 ?_
      refine hx_Vv (wr := [(ad 0, .inr (1, [.ref (ad 1), .ref (ad 3), .ref (ad 4), .ref (ad 5), .int (rNm s_4), .int (rKd s_4), .int (rPl s_4), .int (rSk s_4), .int (rNb s_4), .int (rWs s_4), .int (rWe s_4)])), (ad 1, .inr (2, [.ref (ad 2), .int (T.2)])), (ad 2, .inl (cd 0, 300, .inl T.1)), (ad 3, .inl (cd 1, 100, .inl (rNs s_4))), (ad 4, .inl (cd 2, 100, .inl (rNe s_4)))]) (As := [.int 8, .int (rNb s_4)]) (rest := []) hI (c_Head_set (ah := ad 5) (av := ad 6) (ar := ad 7) (cv := cd 3) (cr := cd 4) (tv := 3) (tr := 4) rfl rfl (rVs s_4, rVr s_4) 8 (rNb s_4)) (cw_V (C := "HeadDesk$Head") 2 hts m_92 m_94 m_95 m_40 m_93 (by decide +kernel) ⟨by decide, by decide⟩) hX hA hP hD hS [5, 6, 7] [0, 1, 2, 3, 4] rfl rfl (by decide) (by decide) (by decide) (va_recv hX.1 hP (ci := 0) (q0 := 5) rfl rfl) rfl hl.1 rfl (Nat.le_of_ble_eq_true rfl) d_Reader_readLength_22 ⟨Nat.zero_le _, Nat.zero_le _⟩ (fun H locs hP hD hS => ?_)
      obtain ⟨s_22, e_22⟩ : ∃ z : RS, z = sVs s_4 (hSet (rVs s_4) 8 (rNb s_4)) := ⟨_, rfl⟩
      have hP : va_P D vwCl (rdW ad cd T s_22) H := by rw [e_22]; exact hP.sub [0, 1, 2, 3, 4, 5, 6, 7] rfl
      have hD : va_D A (rdW ad cd T s_22) := by rw [e_22]; exact hD.sub [0, 1, 2, 3, 4, 5, 6, 7] (by decide) rfl
      refine lv_iconst (v := 1) hx hb d_Reader_readLength_25 (by decide) ?_
      exact hret H locs s_22 true _ _ hP hD hS (pr2 (by first | (simp only [fLen, c_7, bnd_t c_7, ← e_4, ← e_22, fStop, if_true, if_false, Bool.false_eq_true, ↓reduceIte]; done) | (simp only [fLen, c_7, bnd_t c_7, ← e_4, ← e_22, fStop, if_true, if_false, Bool.false_eq_true, ↓reduceIte]; with_reducible rfl) | (simp only [fLen, c_7, bnd_t c_7, ← e_4, ← e_22, fStop, if_true, if_false, Bool.false_eq_true, ↓reduceIte]; rw [e_22]))) d_Reader_readLength_26
    · skip
      have c_7 : ((fNum T st 255).1) = false := bI_0 c_7
      refine lv_iconst (v := 0) hx hb d_Reader_readLength_10 (by decide) ?_
      exact hret H locs s_4 false _ _ hP hD hS (pr2 (by first | (simp only [fLen, c_7, bnd_f c_7, ← e_4, fStop, if_true, if_false, Bool.false_eq_true, ↓reduceIte]; done) | (simp only [fLen, c_7, bnd_f c_7, ← e_4, fStop, if_true, if_false, Bool.false_eq_true, ↓reduceIte]; with_reducible rfl) | (simp only [fLen, c_7, bnd_f c_7, ← e_4, fStop, if_true, if_false, Bool.false_eq_true, ↓reduceIte]; rw [e_4]))) d_Reader_readLength_11
  rw [hH, hlo] at goal
  exact goal
set_option maxHeartbeats 4000000 in
set_option maxRecDepth 100000 in
theorem c_Reader_readTarget (hT : T.2 ≤ 300) (st : RS)  : hx_Mz l D (tyH cd) adK adV tF (rdW ad cd T) y_Reader_readTarget w_Reader_readTarget (rmD 4) [.ref (ad 0)] st ((fTgt T st).1) ((fTgt T st).2) := by
  refine hx_Mz.of (cc := b_Reader_readTarget) (maxL := 1) (by decide) rfl (Nat.le_of_ble_eq_true rfl) ?_
  intro p e s m below meth c A Q ls hI hX hA hP hD hS hl hret
  obtain ⟨hx, hb, hml, hown, hts⟩ := id hI
  have hts : ∀ w ∈ aw, w.before ([.ref (ad 0)] : List Value).toArray s = true := fun w h => hts w (List.mem_cons_of_mem _ h)
  have hown : s.vm.findClass "HeadDesk$Reader" = some m.cls := hown
  have hI : hx_In p s m ([.ref (ad 0)] : List Value).toArray c b_Reader_readTarget 1 "HeadDesk$Reader" aw := ⟨hx, hb, hml, hown, hts⟩
  have hP : va_P D vwCl (rdW ad cd T st) s.heap := hP
  obtain ⟨H, hH⟩ : ∃ H, H = s.heap := ⟨_, rfl⟩
  obtain ⟨locs, hlo⟩ : ∃ locs : List Loc, locs = [] := ⟨_, rfl⟩
  have hS : va_S A s.heap H locs := by rw [hH, hlo]; exact hS
  have hP : va_P D vwCl (rdW ad cd T st) H := by rw [hH]; exact hP
  have hl : lv_has ls 1 [(0, .ref (ad 0))] := hl
  have goal : W p l e (rmD 4) s m ([.ref (ad 0)] : List Value).toArray below meth c H locs 0 0 Q (F0 m 0 ls []) := by
    refine lv_aload_n hx hb d_Reader_readTarget_0 rfl (lv_at hl 0 rfl) ?_
    refine lv_bipush (v := 31) hx hb d_Reader_readTarget_1 (by decide) ?_
    refine hx_Vz (wr := []) (As := [.int 31]) (rest := []) hI (c_Reader_takeNumber hT st 31) (cw_V (C := "HeadDesk$Reader") 1 hts m_96 m_98 m_99 m_57 m_97 (by decide +kernel) ⟨by decide, by decide⟩) hX hA hP hD hS [0, 1, 2, 3, 4, 5, 6, 7] [] rfl rfl (by decide) (by decide) (by decide) (va_recv hX.1 hP (ci := 1) (q0 := 0) rfl rfl) rfl hl.1 rfl (Nat.le_of_ble_eq_true rfl) d_Reader_readTarget_3 ⟨Nat.zero_le _, Nat.zero_le _⟩ (fun H locs hP hD hS => ?_)
    obtain ⟨s_3, e_3⟩ : ∃ z : RS, z = (fNum T st 31).2 := ⟨_, rfl⟩
    have hP : va_P D vwCl (rdW ad cd T s_3) H := by rw [e_3]; exact hP
    have hD : va_D A (rdW ad cd T s_3) := by rw [e_3]; exact hD
    refine lv_if_ne (tgt := 11) hx hb d_Reader_readTarget_6 (by decide) (fun c_6 => ?_) (fun c_6 => ?_)
    · skip
      have c_6 : ((fNum T st 31).1) = true := bI_1 c_6
      refine lv_aload_n hx hb d_Reader_readTarget_11 rfl (lv_at hl 0 rfl) ?_
      refine va_get (D := D) (ci := 1) (v := .ref (ad 5)) (C := "HeadDesk$Reader") (T := F_Reader) (N := 11) hx hb hts a_Reader hown hX.1 hP 0 rfl rfl 3 (by decide) (hts _ m_91) (fun _ h9 => h9) rfl d_Reader_readTarget_12 ?_
      refine lv_iconst (v := 1) hx hb d_Reader_readTarget_15 (by decide) ?_
      refine lv_aload_n hx hb d_Reader_readTarget_16 rfl (lv_at hl 0 rfl) ?_
      refine va_get (D := D) (ci := 1) (v := .int (rNb s_3)) (C := "HeadDesk$Reader") (T := F_Reader) (N := 11) hx hb hts a_Reader hown hX.1 hP 0 rfl rfl 8 (by decide) (hts _ m_62) (fun _ h9 => h9) rfl d_Reader_readTarget_17 ?_
      refine hx_Vv (wr := [(ad 0, .inr (1, [.ref (ad 1), .ref (ad 3), .ref (ad 4), .ref (ad 5), .int (rNm s_3), .int (rKd s_3), .int (rPl s_3), .int (rSk s_3), .int (rNb s_3), .int (rWs s_3), .int (rWe s_3)])), (ad 1, .inr (2, [.ref (ad 2), .int (T.2)])), (ad 2, .inl (cd 0, 300, .inl T.1)), (ad 3, .inl (cd 1, 100, .inl (rNs s_3))), (ad 4, .inl (cd 2, 100, .inl (rNe s_3)))]) (As := [.int 1, .int (rNb s_3)]) (rest := []) hI (c_Head_set (ah := ad 5) (av := ad 6) (ar := ad 7) (cv := cd 3) (cr := cd 4) (tv := 3) (tr := 4) rfl rfl (rVs s_3, rVr s_3) 1 (rNb s_3)) (cw_V (C := "HeadDesk$Head") 2 hts m_92 m_94 m_95 m_40 m_93 (by decide +kernel) ⟨by decide, by decide⟩) hX hA hP hD hS [5, 6, 7] [0, 1, 2, 3, 4] rfl rfl (by decide) (by decide) (by decide) (va_recv hX.1 hP (ci := 0) (q0 := 5) rfl rfl) rfl hl.1 rfl (Nat.le_of_ble_eq_true rfl) d_Reader_readTarget_20 ⟨Nat.zero_le _, Nat.zero_le _⟩ (fun H locs hP hD hS => ?_)
      obtain ⟨s_20, e_20⟩ : ∃ z : RS, z = sVs s_3 (hSet (rVs s_3) 1 (rNb s_3)) := ⟨_, rfl⟩
      have hP : va_P D vwCl (rdW ad cd T s_20) H := by rw [e_20]; exact hP.sub [0, 1, 2, 3, 4, 5, 6, 7] rfl
      have hD : va_D A (rdW ad cd T s_20) := by rw [e_20]; exact hD.sub [0, 1, 2, 3, 4, 5, 6, 7] (by decide) rfl
      refine lv_aload_n hx hb d_Reader_readTarget_23 rfl (lv_at hl 0 rfl) ?_
      refine va_get (D := D) (ci := 1) (v := .int (rKd s_20)) (C := "HeadDesk$Reader") (T := F_Reader) (N := 11) hx hb hts a_Reader hown hX.1 hP 0 rfl rfl 5 (by decide) (hts _ m_90) (fun _ h9 => h9) rfl d_Reader_readTarget_24 ?_
      refine lv_iconst (v := 1) hx hb d_Reader_readTarget_27 (by decide) ?_
      refine lv_icmp_eq (tgt := 40) hx hb d_Reader_readTarget_28 (by decide) (fun c_28 => ?_) (fun c_28 => ?_)
      · skip
        have c_28 : (rKd s_20 = 1) := c_28
        refine lv_iconst (v := 1) hx hb d_Reader_readTarget_40 (by decide) ?_
        exact hret H locs s_20 true _ _ hP hD hS (pr2 (by first | (simp only [fTgt, fTgtE, c_6, if_pos c_28, bnd_t c_6, ← e_3, ← e_20, fStop, if_true, if_false, Bool.false_eq_true, ↓reduceIte]; done) | (simp only [fTgt, fTgtE, c_6, if_pos c_28, bnd_t c_6, ← e_3, ← e_20, fStop, if_true, if_false, Bool.false_eq_true, ↓reduceIte]; with_reducible rfl) | (simp only [fTgt, fTgtE, c_6, if_pos c_28, bnd_t c_6, ← e_3, ← e_20, fStop, if_true, if_false, Bool.false_eq_true, ↓reduceIte]; rw [e_20]))) d_Reader_readTarget_41
      · skip
        have c_28 : ¬ (rKd s_20 = 1) := c_28
        refine lv_aload_n hx hb d_Reader_readTarget_31 rfl (lv_at hl 0 rfl) ?_
        refine lv_bipush (v := 47) hx hb d_Reader_readTarget_32 (by decide) ?_
        refine hx_Vz (wr := []) (As := [.int 47]) (rest := []) hI (c_Reader_skip hT s_20 47) (cw_V (C := "HeadDesk$Reader") 1 hts m_100 m_102 m_103 m_57 m_101 (by decide +kernel) ⟨by decide, by decide⟩) hX hA hP hD hS [0, 1, 2, 3, 4, 5, 6, 7] [] rfl rfl (by decide) (by decide) (by decide) (va_recv hX.1 hP (ci := 1) (q0 := 0) rfl rfl) rfl hl.1 rfl (Nat.le_of_ble_eq_true rfl) d_Reader_readTarget_34 ⟨Nat.zero_le _, Nat.zero_le _⟩ (fun H locs hP hD hS => ?_)
        obtain ⟨s_34, e_34⟩ : ∃ z : RS, z = (fSkip T s_20 47).2 := ⟨_, rfl⟩
        have hP : va_P D vwCl (rdW ad cd T s_34) H := by rw [e_34]; exact hP
        have hD : va_D A (rdW ad cd T s_34) := by rw [e_34]; exact hD
        refine lv_if_ne (tgt := 42) hx hb d_Reader_readTarget_37 (by decide) (fun c_37 => ?_) (fun c_37 => ?_)
        · skip
          have c_37 : ((fSkip T s_20 47).1) = true := bI_1 c_37
          refine lv_aload_n hx hb d_Reader_readTarget_42 rfl (lv_at hl 0 rfl) ?_
          refine lv_iconst (v := 3) hx hb d_Reader_readTarget_43 (by decide) ?_
          refine hx_Vz (wr := []) (As := [.int 3]) (rest := []) hI (c_Reader_takeNumber hT s_34 3) (cw_V (C := "HeadDesk$Reader") 1 hts m_96 m_98 m_99 m_57 m_97 (by decide +kernel) ⟨by decide, by decide⟩) hX hA hP hD hS [0, 1, 2, 3, 4, 5, 6, 7] [] rfl rfl (by decide) (by decide) (by decide) (va_recv hX.1 hP (ci := 1) (q0 := 0) rfl rfl) rfl hl.1 rfl (Nat.le_of_ble_eq_true rfl) d_Reader_readTarget_44 ⟨Nat.zero_le _, Nat.zero_le _⟩ (fun H locs hP hD hS => ?_)
          obtain ⟨s_44, e_44⟩ : ∃ z : RS, z = (fNum T s_34 3).2 := ⟨_, rfl⟩
          have hP : va_P D vwCl (rdW ad cd T s_44) H := by rw [e_44]; exact hP
          have hD : va_D A (rdW ad cd T s_44) := by rw [e_44]; exact hD
          refine lv_if_ne (tgt := 52) hx hb d_Reader_readTarget_47 (by decide) (fun c_47 => ?_) (fun c_47 => ?_)
          · skip
            have c_47 : ((fNum T s_34 3).1) = true := bI_1 c_47
            refine lv_aload_n hx hb d_Reader_readTarget_52 rfl (lv_at hl 0 rfl) ?_
            refine va_get (D := D) (ci := 1) (v := .ref (ad 5)) (C := "HeadDesk$Reader") (T := F_Reader) (N := 11) hx hb hts a_Reader hown hX.1 hP 0 rfl rfl 3 (by decide) (hts _ m_91) (fun _ h9 => h9) rfl d_Reader_readTarget_53 ?_
            refine lv_iconst (v := 2) hx hb d_Reader_readTarget_56 (by decide) ?_
            refine lv_aload_n hx hb d_Reader_readTarget_57 rfl (lv_at hl 0 rfl) ?_
            refine va_get (D := D) (ci := 1) (v := .int (rNb s_44)) (C := "HeadDesk$Reader") (T := F_Reader) (N := 11) hx hb hts a_Reader hown hX.1 hP 0 rfl rfl 8 (by decide) (hts _ m_62) (fun _ h9 => h9) rfl d_Reader_readTarget_58 ?_
            refine hx_Vv (wr := [(ad 0, .inr (1, [.ref (ad 1), .ref (ad 3), .ref (ad 4), .ref (ad 5), .int (rNm s_44), .int (rKd s_44), .int (rPl s_44), .int (rSk s_44), .int (rNb s_44), .int (rWs s_44), .int (rWe s_44)])), (ad 1, .inr (2, [.ref (ad 2), .int (T.2)])), (ad 2, .inl (cd 0, 300, .inl T.1)), (ad 3, .inl (cd 1, 100, .inl (rNs s_44))), (ad 4, .inl (cd 2, 100, .inl (rNe s_44)))]) (As := [.int 2, .int (rNb s_44)]) (rest := []) hI (c_Head_set (ah := ad 5) (av := ad 6) (ar := ad 7) (cv := cd 3) (cr := cd 4) (tv := 3) (tr := 4) rfl rfl (rVs s_44, rVr s_44) 2 (rNb s_44)) (cw_V (C := "HeadDesk$Head") 2 hts m_92 m_94 m_95 m_40 m_93 (by decide +kernel) ⟨by decide, by decide⟩) hX hA hP hD hS [5, 6, 7] [0, 1, 2, 3, 4] rfl rfl (by decide) (by decide) (by decide) (va_recv hX.1 hP (ci := 0) (q0 := 5) rfl rfl) rfl hl.1 rfl (Nat.le_of_ble_eq_true rfl) d_Reader_readTarget_61 ⟨Nat.zero_le _, Nat.zero_le _⟩ (fun H locs hP hD hS => ?_)
            obtain ⟨s_61, e_61⟩ : ∃ z : RS, z = sVs s_44 (hSet (rVs s_44) 2 (rNb s_44)) := ⟨_, rfl⟩
            have hP : va_P D vwCl (rdW ad cd T s_61) H := by rw [e_61]; exact hP.sub [0, 1, 2, 3, 4, 5, 6, 7] rfl
            have hD : va_D A (rdW ad cd T s_61) := by rw [e_61]; exact hD.sub [0, 1, 2, 3, 4, 5, 6, 7] (by decide) rfl
            refine lv_iconst (v := 1) hx hb d_Reader_readTarget_64 (by decide) ?_
            exact hret H locs s_61 true _ _ hP hD hS (pr2 (by first | (simp only [fTgt, fTgtE, c_6, if_neg c_28, c_37, c_47, bnd_t c_6, bnd_t c_37, bnd_t c_47, ← e_3, ← e_20, ← e_34, ← e_44, ← e_61, fStop, if_true, if_false, Bool.false_eq_true, ↓reduceIte]; done) | (simp only [fTgt, fTgtE, c_6, if_neg c_28, c_37, c_47, bnd_t c_6, bnd_t c_37, bnd_t c_47, ← e_3, ← e_20, ← e_34, ← e_44, ← e_61, fStop, if_true, if_false, Bool.false_eq_true, ↓reduceIte]; with_reducible rfl) | (simp only [fTgt, fTgtE, c_6, if_neg c_28, c_37, c_47, bnd_t c_6, bnd_t c_37, bnd_t c_47, ← e_3, ← e_20, ← e_34, ← e_44, ← e_61, fStop, if_true, if_false, Bool.false_eq_true, ↓reduceIte]; rw [e_61]))) d_Reader_readTarget_65
          · skip
            have c_47 : ((fNum T s_34 3).1) = false := bI_0 c_47
            refine lv_iconst (v := 0) hx hb d_Reader_readTarget_50 (by decide) ?_
            exact hret H locs s_44 false _ _ hP hD hS (pr2 (by first | (simp only [fTgt, fTgtE, c_6, if_neg c_28, c_37, c_47, bnd_t c_6, bnd_t c_37, bnd_f c_47, ← e_3, ← e_20, ← e_34, ← e_44, fStop, if_true, if_false, Bool.false_eq_true, ↓reduceIte]; done) | (simp only [fTgt, fTgtE, c_6, if_neg c_28, c_37, c_47, bnd_t c_6, bnd_t c_37, bnd_f c_47, ← e_3, ← e_20, ← e_34, ← e_44, fStop, if_true, if_false, Bool.false_eq_true, ↓reduceIte]; with_reducible rfl) | (simp only [fTgt, fTgtE, c_6, if_neg c_28, c_37, c_47, bnd_t c_6, bnd_t c_37, bnd_f c_47, ← e_3, ← e_20, ← e_34, ← e_44, fStop, if_true, if_false, Bool.false_eq_true, ↓reduceIte]; rw [e_44]))) d_Reader_readTarget_51
        · skip
          have c_37 : ((fSkip T s_20 47).1) = false := bI_0 c_37
          refine lv_iconst (v := 1) hx hb d_Reader_readTarget_40 (by decide) ?_
          exact hret H locs s_34 true _ _ hP hD hS (pr2 (by first | (simp only [fTgt, fTgtE, c_6, if_neg c_28, c_37, bnd_t c_6, bnd_f c_37, ← e_3, ← e_20, ← e_34, fStop, if_true, if_false, Bool.false_eq_true, ↓reduceIte]; done) | (simp only [fTgt, fTgtE, c_6, if_neg c_28, c_37, bnd_t c_6, bnd_f c_37, ← e_3, ← e_20, ← e_34, fStop, if_true, if_false, Bool.false_eq_true, ↓reduceIte]; with_reducible rfl) | (simp only [fTgt, fTgtE, c_6, if_neg c_28, c_37, bnd_t c_6, bnd_f c_37, ← e_3, ← e_20, ← e_34, fStop, if_true, if_false, Bool.false_eq_true, ↓reduceIte]; rw [e_34]))) d_Reader_readTarget_41
    · skip
      have c_6 : ((fNum T st 31).1) = false := bI_0 c_6
      refine lv_iconst (v := 0) hx hb d_Reader_readTarget_9 (by decide) ?_
      exact hret H locs s_3 false _ _ hP hD hS (pr2 (by first | (simp only [fTgt, fTgtE, c_6, bnd_f c_6, ← e_3, fStop, if_true, if_false, Bool.false_eq_true, ↓reduceIte]; done) | (simp only [fTgt, fTgtE, c_6, bnd_f c_6, ← e_3, fStop, if_true, if_false, Bool.false_eq_true, ↓reduceIte]; with_reducible rfl) | (simp only [fTgt, fTgtE, c_6, bnd_f c_6, ← e_3, fStop, if_true, if_false, Bool.false_eq_true, ↓reduceIte]; rw [e_3]))) d_Reader_readTarget_10
  rw [hH, hlo] at goal
  exact goal
set_option maxHeartbeats 4000000 in
set_option maxRecDepth 100000 in
theorem c_Reader_readVerb (hT : T.2 ≤ 300) (st : RS)  : hx_Mz l D (tyH cd) adK adV tF (rdW ad cd T) y_Reader_readVerb w_Reader_readVerb (rmD 6) [.ref (ad 0)] st ((fVerb T st).1) ((fVerb T st).2) := by
  refine hx_Mz.of (cc := b_Reader_readVerb) (maxL := 1) (by decide) rfl (Nat.le_of_ble_eq_true rfl) ?_
  intro p e s m below meth c A Q ls hI hX hA hP hD hS hl hret
  obtain ⟨hx, hb, hml, hown, hts⟩ := id hI
  have hts : ∀ w ∈ aw, w.before ([.ref (ad 0)] : List Value).toArray s = true := fun w h => hts w (List.mem_cons_of_mem _ h)
  have hown : s.vm.findClass "HeadDesk$Reader" = some m.cls := hown
  have hI : hx_In p s m ([.ref (ad 0)] : List Value).toArray c b_Reader_readVerb 1 "HeadDesk$Reader" aw := ⟨hx, hb, hml, hown, hts⟩
  have hP : va_P D vwCl (rdW ad cd T st) s.heap := hP
  obtain ⟨H, hH⟩ : ∃ H, H = s.heap := ⟨_, rfl⟩
  obtain ⟨locs, hlo⟩ : ∃ locs : List Loc, locs = [] := ⟨_, rfl⟩
  have hS : va_S A s.heap H locs := by rw [hH, hlo]; exact hS
  have hP : va_P D vwCl (rdW ad cd T st) H := by rw [hH]; exact hP
  have hl : lv_has ls 1 [(0, .ref (ad 0))] := hl
  have goal : W p l e (rmD 6) s m ([.ref (ad 0)] : List Value).toArray below meth c H locs 0 0 Q (F0 m 0 ls []) := by
    refine lv_aload_n hx hb d_Reader_readVerb_0 rfl (lv_at hl 0 rfl) ?_
    refine va_get (D := D) (ci := 1) (v := .int (rKd st)) (C := "HeadDesk$Reader") (T := F_Reader) (N := 11) hx hb hts a_Reader hown hX.1 hP 0 rfl rfl 5 (by decide) (hts _ m_90) (fun _ h9 => h9) rfl d_Reader_readVerb_1 ?_
    refine lv_iconst (v := 1) hx hb d_Reader_readVerb_4 (by decide) ?_
    refine lv_icmp_ne (tgt := 24) hx hb d_Reader_readVerb_5 (by decide) (fun c_5 => ?_) (fun c_5 => ?_)
    · skip
      have c_5 : ¬ (rKd st = 1) := c_5
      refine lv_aload_n hx hb d_Reader_readVerb_24 rfl (lv_at hl 0 rfl) ?_
      refine hx_Vi (wr := []) (As := []) (rest := []) hI (c_Reader_mark hT st ) (cw_V (C := "HeadDesk$Reader") 0 hts m_53 m_55 m_56 m_57 m_54 (by decide +kernel) ⟨by decide, by decide⟩) hX hA hP hD hS [0, 1, 2, 3, 4, 5, 6, 7] [] rfl rfl (by decide) (by decide) (by decide) (va_recv hX.1 hP (ci := 1) (q0 := 0) rfl rfl) rfl hl.1 rfl (Nat.le_of_ble_eq_true rfl) d_Reader_readVerb_25 ⟨Nat.zero_le _, Nat.zero_le _⟩ (fun H locs hP hD hS => ?_)
      have hP : va_P D vwCl (rdW ad cd T st) H := hP
      have hD : va_D A (rdW ad cd T st) := hD
      refine lv_bipush (v := 72) hx hb d_Reader_readVerb_28 (by decide) ?_
      refine lv_icmp_ne (tgt := 49) hx hb d_Reader_readVerb_30 (by decide) (fun c_30 => ?_) (fun c_30 => ?_)
      · skip
        have c_30 : ¬ (fMark T st = 72) := c_30
        refine lv_aload_n hx hb d_Reader_readVerb_49 rfl (lv_at hl 0 rfl) ?_
        refine va_get (D := D) (ci := 1) (v := .ref (ad 5)) (C := "HeadDesk$Reader") (T := F_Reader) (N := 11) hx hb hts a_Reader hown hX.1 hP 0 rfl rfl 3 (by decide) (hts _ m_91) (fun _ h9 => h9) rfl d_Reader_readVerb_50 ?_
        refine lv_iconst (v := 0) hx hb d_Reader_readVerb_53 (by decide) ?_
        refine lv_iconst (v := 1) hx hb d_Reader_readVerb_54 (by decide) ?_
        refine hx_Vv (wr := [(ad 0, .inr (1, [.ref (ad 1), .ref (ad 3), .ref (ad 4), .ref (ad 5), .int (rNm st), .int (rKd st), .int (rPl st), .int (rSk st), .int (rNb st), .int (rWs st), .int (rWe st)])), (ad 1, .inr (2, [.ref (ad 2), .int (T.2)])), (ad 2, .inl (cd 0, 300, .inl T.1)), (ad 3, .inl (cd 1, 100, .inl (rNs st))), (ad 4, .inl (cd 2, 100, .inl (rNe st)))]) (As := [.int 0, .int 1]) (rest := []) hI (c_Head_set (ah := ad 5) (av := ad 6) (ar := ad 7) (cv := cd 3) (cr := cd 4) (tv := 3) (tr := 4) rfl rfl (rVs st, rVr st) 0 1) (cw_V (C := "HeadDesk$Head") 2 hts m_92 m_94 m_95 m_40 m_93 (by decide +kernel) ⟨by decide, by decide⟩) hX hA hP hD hS [5, 6, 7] [0, 1, 2, 3, 4] rfl rfl (by decide) (by decide) (by decide) (va_recv hX.1 hP (ci := 0) (q0 := 5) rfl rfl) rfl hl.1 rfl (Nat.le_of_ble_eq_true rfl) d_Reader_readVerb_55 ⟨Nat.zero_le _, Nat.zero_le _⟩ (fun H locs hP hD hS => ?_)
        obtain ⟨s_55, e_55⟩ : ∃ z : RS, z = sVs st (hSet (rVs st) 0 1) := ⟨_, rfl⟩
        have hP : va_P D vwCl (rdW ad cd T s_55) H := by rw [e_55]; exact hP.sub [0, 1, 2, 3, 4, 5, 6, 7] rfl
        have hD : va_D A (rdW ad cd T s_55) := by rw [e_55]; exact hD.sub [0, 1, 2, 3, 4, 5, 6, 7] (by decide) rfl
        refine lv_aload_n hx hb d_Reader_readVerb_58 rfl (lv_at hl 0 rfl) ?_
        refine va_ldcS hx hb hown (hX.2.2.2.2.2.1 _ _ _ _ st_3) d_Reader_readVerb_59 ?_
        refine hx_Vz (wr := []) (As := [.ref (adK 3)]) (rest := []) hI (c_Reader_takeAllL hT s_55 (by decide) sw_3) (cw_V (C := "HeadDesk$Reader") 1 hts m_104 m_106 m_107 m_57 m_105 (by decide +kernel) ⟨by decide, by decide⟩) hX hA hP hD hS [0, 1, 2, 3, 4, 5, 6, 7] [] rfl rfl (by decide) (by decide) (by decide) (va_recv hX.1 hP (ci := 1) (q0 := 0) rfl rfl) rfl hl.1 rfl (Nat.le_of_ble_eq_true rfl) d_Reader_readVerb_61 ⟨Nat.zero_le _, Nat.zero_le _⟩ (fun H locs hP hD hS => ?_)
        obtain ⟨s_61, e_61⟩ : ∃ z : RS, z = (fAll T t_GET s_55).2 := ⟨_, rfl⟩
        have hP : va_P D vwCl (rdW ad cd T s_61) H := by rw [e_61]; exact hP
        have hD : va_D A (rdW ad cd T s_61) := by rw [e_61]; exact hD
        exact hret H locs s_61 ((fAll T t_GET s_55).1) _ _ hP hD hS (pr2 (by first | (simp only [fVerb, if_neg c_5, if_neg c_30, ← e_55, ← e_61, fStop, if_true, if_false, Bool.false_eq_true, ↓reduceIte]; done) | (simp only [fVerb, if_neg c_5, if_neg c_30, ← e_55, ← e_61, fStop, if_true, if_false, Bool.false_eq_true, ↓reduceIte]; with_reducible rfl) | (simp only [fVerb, if_neg c_5, if_neg c_30, ← e_55, ← e_61, fStop, if_true, if_false, Bool.false_eq_true, ↓reduceIte]; rw [e_61]))) d_Reader_readVerb_64
      · skip
        have c_30 : (fMark T st = 72) := c_30
        refine lv_aload_n hx hb d_Reader_readVerb_33 rfl (lv_at hl 0 rfl) ?_
        refine va_get (D := D) (ci := 1) (v := .ref (ad 5)) (C := "HeadDesk$Reader") (T := F_Reader) (N := 11) hx hb hts a_Reader hown hX.1 hP 0 rfl rfl 3 (by decide) (hts _ m_91) (fun _ h9 => h9) rfl d_Reader_readVerb_34 ?_
        refine lv_iconst (v := 0) hx hb d_Reader_readVerb_37 (by decide) ?_
        refine lv_iconst (v := 2) hx hb d_Reader_readVerb_38 (by decide) ?_
        refine hx_Vv (wr := [(ad 0, .inr (1, [.ref (ad 1), .ref (ad 3), .ref (ad 4), .ref (ad 5), .int (rNm st), .int (rKd st), .int (rPl st), .int (rSk st), .int (rNb st), .int (rWs st), .int (rWe st)])), (ad 1, .inr (2, [.ref (ad 2), .int (T.2)])), (ad 2, .inl (cd 0, 300, .inl T.1)), (ad 3, .inl (cd 1, 100, .inl (rNs st))), (ad 4, .inl (cd 2, 100, .inl (rNe st)))]) (As := [.int 0, .int 2]) (rest := []) hI (c_Head_set (ah := ad 5) (av := ad 6) (ar := ad 7) (cv := cd 3) (cr := cd 4) (tv := 3) (tr := 4) rfl rfl (rVs st, rVr st) 0 2) (cw_V (C := "HeadDesk$Head") 2 hts m_92 m_94 m_95 m_40 m_93 (by decide +kernel) ⟨by decide, by decide⟩) hX hA hP hD hS [5, 6, 7] [0, 1, 2, 3, 4] rfl rfl (by decide) (by decide) (by decide) (va_recv hX.1 hP (ci := 0) (q0 := 5) rfl rfl) rfl hl.1 rfl (Nat.le_of_ble_eq_true rfl) d_Reader_readVerb_39 ⟨Nat.zero_le _, Nat.zero_le _⟩ (fun H locs hP hD hS => ?_)
        obtain ⟨s_39, e_39⟩ : ∃ z : RS, z = sVs st (hSet (rVs st) 0 2) := ⟨_, rfl⟩
        have hP : va_P D vwCl (rdW ad cd T s_39) H := by rw [e_39]; exact hP.sub [0, 1, 2, 3, 4, 5, 6, 7] rfl
        have hD : va_D A (rdW ad cd T s_39) := by rw [e_39]; exact hD.sub [0, 1, 2, 3, 4, 5, 6, 7] (by decide) rfl
        refine lv_aload_n hx hb d_Reader_readVerb_42 rfl (lv_at hl 0 rfl) ?_
        refine va_ldcS hx hb hown (hX.2.2.2.2.2.1 _ _ _ _ st_2) d_Reader_readVerb_43 ?_
        refine hx_Vz (wr := []) (As := [.ref (adK 2)]) (rest := []) hI (c_Reader_takeAllL hT s_39 (by decide) sw_2) (cw_V (C := "HeadDesk$Reader") 1 hts m_104 m_106 m_107 m_57 m_105 (by decide +kernel) ⟨by decide, by decide⟩) hX hA hP hD hS [0, 1, 2, 3, 4, 5, 6, 7] [] rfl rfl (by decide) (by decide) (by decide) (va_recv hX.1 hP (ci := 1) (q0 := 0) rfl rfl) rfl hl.1 rfl (Nat.le_of_ble_eq_true rfl) d_Reader_readVerb_45 ⟨Nat.zero_le _, Nat.zero_le _⟩ (fun H locs hP hD hS => ?_)
        obtain ⟨s_45, e_45⟩ : ∃ z : RS, z = (fAll T t_HEAD s_39).2 := ⟨_, rfl⟩
        have hP : va_P D vwCl (rdW ad cd T s_45) H := by rw [e_45]; exact hP
        have hD : va_D A (rdW ad cd T s_45) := by rw [e_45]; exact hD
        exact hret H locs s_45 ((fAll T t_HEAD s_39).1) _ _ hP hD hS (pr2 (by first | (simp only [fVerb, if_neg c_5, if_pos c_30, ← e_39, ← e_45, fStop, if_true, if_false, Bool.false_eq_true, ↓reduceIte]; done) | (simp only [fVerb, if_neg c_5, if_pos c_30, ← e_39, ← e_45, fStop, if_true, if_false, Bool.false_eq_true, ↓reduceIte]; with_reducible rfl) | (simp only [fVerb, if_neg c_5, if_pos c_30, ← e_39, ← e_45, fStop, if_true, if_false, Bool.false_eq_true, ↓reduceIte]; rw [e_45]))) d_Reader_readVerb_48
    · skip
      have c_5 : (rKd st = 1) := c_5
      refine lv_aload_n hx hb d_Reader_readVerb_8 rfl (lv_at hl 0 rfl) ?_
      refine va_get (D := D) (ci := 1) (v := .ref (ad 5)) (C := "HeadDesk$Reader") (T := F_Reader) (N := 11) hx hb hts a_Reader hown hX.1 hP 0 rfl rfl 3 (by decide) (hts _ m_91) (fun _ h9 => h9) rfl d_Reader_readVerb_9 ?_
      refine lv_iconst (v := 0) hx hb d_Reader_readVerb_12 (by decide) ?_
      refine lv_iconst (v := 3) hx hb d_Reader_readVerb_13 (by decide) ?_
      refine hx_Vv (wr := [(ad 0, .inr (1, [.ref (ad 1), .ref (ad 3), .ref (ad 4), .ref (ad 5), .int (rNm st), .int (rKd st), .int (rPl st), .int (rSk st), .int (rNb st), .int (rWs st), .int (rWe st)])), (ad 1, .inr (2, [.ref (ad 2), .int (T.2)])), (ad 2, .inl (cd 0, 300, .inl T.1)), (ad 3, .inl (cd 1, 100, .inl (rNs st))), (ad 4, .inl (cd 2, 100, .inl (rNe st)))]) (As := [.int 0, .int 3]) (rest := []) hI (c_Head_set (ah := ad 5) (av := ad 6) (ar := ad 7) (cv := cd 3) (cr := cd 4) (tv := 3) (tr := 4) rfl rfl (rVs st, rVr st) 0 3) (cw_V (C := "HeadDesk$Head") 2 hts m_92 m_94 m_95 m_40 m_93 (by decide +kernel) ⟨by decide, by decide⟩) hX hA hP hD hS [5, 6, 7] [0, 1, 2, 3, 4] rfl rfl (by decide) (by decide) (by decide) (va_recv hX.1 hP (ci := 0) (q0 := 5) rfl rfl) rfl hl.1 rfl (Nat.le_of_ble_eq_true rfl) d_Reader_readVerb_14 ⟨Nat.zero_le _, Nat.zero_le _⟩ (fun H locs hP hD hS => ?_)
      obtain ⟨s_14, e_14⟩ : ∃ z : RS, z = sVs st (hSet (rVs st) 0 3) := ⟨_, rfl⟩
      have hP : va_P D vwCl (rdW ad cd T s_14) H := by rw [e_14]; exact hP.sub [0, 1, 2, 3, 4, 5, 6, 7] rfl
      have hD : va_D A (rdW ad cd T s_14) := by rw [e_14]; exact hD.sub [0, 1, 2, 3, 4, 5, 6, 7] (by decide) rfl
      refine lv_aload_n hx hb d_Reader_readVerb_17 rfl (lv_at hl 0 rfl) ?_
      refine va_ldcS hx hb hown (hX.2.2.2.2.2.1 _ _ _ _ st_1) d_Reader_readVerb_18 ?_
      refine hx_Vz (wr := []) (As := [.ref (adK 1)]) (rest := []) hI (c_Reader_takeAllL hT s_14 (by decide) sw_1) (cw_V (C := "HeadDesk$Reader") 1 hts m_104 m_106 m_107 m_57 m_105 (by decide +kernel) ⟨by decide, by decide⟩) hX hA hP hD hS [0, 1, 2, 3, 4, 5, 6, 7] [] rfl rfl (by decide) (by decide) (by decide) (va_recv hX.1 hP (ci := 1) (q0 := 0) rfl rfl) rfl hl.1 rfl (Nat.le_of_ble_eq_true rfl) d_Reader_readVerb_20 ⟨Nat.zero_le _, Nat.zero_le _⟩ (fun H locs hP hD hS => ?_)
      obtain ⟨s_20, e_20⟩ : ∃ z : RS, z = (fAll T t_PUT s_14).2 := ⟨_, rfl⟩
      have hP : va_P D vwCl (rdW ad cd T s_20) H := by rw [e_20]; exact hP
      have hD : va_D A (rdW ad cd T s_20) := by rw [e_20]; exact hD
      exact hret H locs s_20 ((fAll T t_PUT s_14).1) _ _ hP hD hS (pr2 (by first | (simp only [fVerb, if_pos c_5, ← e_14, ← e_20, fStop, if_true, if_false, Bool.false_eq_true, ↓reduceIte]; done) | (simp only [fVerb, if_pos c_5, ← e_14, ← e_20, fStop, if_true, if_false, Bool.false_eq_true, ↓reduceIte]; with_reducible rfl) | (simp only [fVerb, if_pos c_5, ← e_14, ← e_20, fStop, if_true, if_false, Bool.false_eq_true, ↓reduceIte]; rw [e_20]))) d_Reader_readVerb_23
  rw [hH, hlo] at goal
  exact goal
set_option maxHeartbeats 4000000 in
set_option maxRecDepth 100000 in
theorem c_Reader_readFirstLine (hT : T.2 ≤ 300) (st : RS)  : hx_Mz l D (tyH cd) adK adV tF (rdW ad cd T) y_Reader_readFirstLine w_Reader_readFirstLine (rmD 7) [.ref (ad 0)] st ((fFst T st).1) ((fFst T st).2) := by
  refine hx_Mz.of (cc := b_Reader_readFirstLine) (maxL := 1) (by decide) rfl (Nat.le_of_ble_eq_true rfl) ?_
  intro p e s m below meth c A Q ls hI hX hA hP hD hS hl hret
  obtain ⟨hx, hb, hml, hown, hts⟩ := id hI
  have hts : ∀ w ∈ aw, w.before ([.ref (ad 0)] : List Value).toArray s = true := fun w h => hts w (List.mem_cons_of_mem _ h)
  have hown : s.vm.findClass "HeadDesk$Reader" = some m.cls := hown
  have hI : hx_In p s m ([.ref (ad 0)] : List Value).toArray c b_Reader_readFirstLine 1 "HeadDesk$Reader" aw := ⟨hx, hb, hml, hown, hts⟩
  have hP : va_P D vwCl (rdW ad cd T st) s.heap := hP
  obtain ⟨H, hH⟩ : ∃ H, H = s.heap := ⟨_, rfl⟩
  obtain ⟨locs, hlo⟩ : ∃ locs : List Loc, locs = [] := ⟨_, rfl⟩
  have hS : va_S A s.heap H locs := by rw [hH, hlo]; exact hS
  have hP : va_P D vwCl (rdW ad cd T st) H := by rw [hH]; exact hP
  have hl : lv_has ls 1 [(0, .ref (ad 0))] := hl
  have goal : W p l e (rmD 7) s m ([.ref (ad 0)] : List Value).toArray below meth c H locs 0 0 Q (F0 m 0 ls []) := by
    refine lv_aload_n hx hb d_Reader_readFirstLine_0 rfl (lv_at hl 0 rfl) ?_
    refine hx_Vz (wr := []) (As := []) (rest := []) hI (c_Reader_readVerb hT st ) (cw_V (C := "HeadDesk$Reader") 0 hts m_108 m_110 m_111 m_57 m_109 (by decide +kernel) ⟨by decide, by decide⟩) hX hA hP hD hS [0, 1, 2, 3, 4, 5, 6, 7] [] rfl rfl (by decide) (by decide) (by decide) (va_recv hX.1 hP (ci := 1) (q0 := 0) rfl rfl) rfl hl.1 rfl (Nat.le_of_ble_eq_true rfl) d_Reader_readFirstLine_1 ⟨Nat.zero_le _, Nat.zero_le _⟩ (fun H locs hP hD hS => ?_)
    obtain ⟨s_1, e_1⟩ : ∃ z : RS, z = (fVerb T st).2 := ⟨_, rfl⟩
    have hP : va_P D vwCl (rdW ad cd T s_1) H := by rw [e_1]; exact hP
    have hD : va_D A (rdW ad cd T s_1) := by rw [e_1]; exact hD
    refine lv_if_eq (tgt := 45) hx hb d_Reader_readFirstLine_4 (by decide) (fun c_4 => ?_) (fun c_4 => ?_)
    · skip
      have c_4 : ((fVerb T st).1) = false := bI_0 c_4
      refine lv_iconst (v := 0) hx hb d_Reader_readFirstLine_45 (by decide) ?_
      exact hret H locs s_1 false _ _ hP hD hS (pr2 (by first | (simp only [fFst, c_4, bnd_f c_4, ← e_1, fStop, if_true, if_false, Bool.false_eq_true, ↓reduceIte]; done) | (simp only [fFst, c_4, bnd_f c_4, ← e_1, fStop, if_true, if_false, Bool.false_eq_true, ↓reduceIte]; with_reducible rfl) | (simp only [fFst, c_4, bnd_f c_4, ← e_1, fStop, if_true, if_false, Bool.false_eq_true, ↓reduceIte]; rw [e_1]))) d_Reader_readFirstLine_46
    · skip
      have c_4 : ((fVerb T st).1) = true := bI_1 c_4
      refine lv_aload_n hx hb d_Reader_readFirstLine_7 rfl (lv_at hl 0 rfl) ?_
      refine lv_bipush (v := 32) hx hb d_Reader_readFirstLine_8 (by decide) ?_
      refine hx_Vz (wr := []) (As := [.int 32]) (rest := []) hI (c_Reader_take hT s_1 32) (cw_V (C := "HeadDesk$Reader") 1 hts m_112 m_114 m_115 m_57 m_113 (by decide +kernel) ⟨by decide, by decide⟩) hX hA hP hD hS [0, 1, 2, 3, 4, 5, 6, 7] [] rfl rfl (by decide) (by decide) (by decide) (va_recv hX.1 hP (ci := 1) (q0 := 0) rfl rfl) rfl hl.1 rfl (Nat.le_of_ble_eq_true rfl) d_Reader_readFirstLine_10 ⟨Nat.zero_le _, Nat.zero_le _⟩ (fun H locs hP hD hS => ?_)
      obtain ⟨s_10, e_10⟩ : ∃ z : RS, z = (fTake T s_1 32).2 := ⟨_, rfl⟩
      have hP : va_P D vwCl (rdW ad cd T s_10) H := by rw [e_10]; exact hP
      have hD : va_D A (rdW ad cd T s_10) := by rw [e_10]; exact hD
      refine lv_if_eq (tgt := 45) hx hb d_Reader_readFirstLine_13 (by decide) (fun c_13 => ?_) (fun c_13 => ?_)
      · skip
        have c_13 : ((fTake T s_1 32).1) = false := bI_0 c_13
        refine lv_iconst (v := 0) hx hb d_Reader_readFirstLine_45 (by decide) ?_
        exact hret H locs s_10 false _ _ hP hD hS (pr2 (by first | (simp only [fFst, c_4, c_13, bnd_t c_4, bnd_f c_13, ← e_1, ← e_10, fStop, if_true, if_false, Bool.false_eq_true, ↓reduceIte]; done) | (simp only [fFst, c_4, c_13, bnd_t c_4, bnd_f c_13, ← e_1, ← e_10, fStop, if_true, if_false, Bool.false_eq_true, ↓reduceIte]; with_reducible rfl) | (simp only [fFst, c_4, c_13, bnd_t c_4, bnd_f c_13, ← e_1, ← e_10, fStop, if_true, if_false, Bool.false_eq_true, ↓reduceIte]; rw [e_10]))) d_Reader_readFirstLine_46
      · skip
        have c_13 : ((fTake T s_1 32).1) = true := bI_1 c_13
        refine lv_aload_n hx hb d_Reader_readFirstLine_16 rfl (lv_at hl 0 rfl) ?_
        refine lv_bipush (v := 47) hx hb d_Reader_readFirstLine_17 (by decide) ?_
        refine hx_Vz (wr := []) (As := [.int 47]) (rest := []) hI (c_Reader_take hT s_10 47) (cw_V (C := "HeadDesk$Reader") 1 hts m_112 m_114 m_115 m_57 m_113 (by decide +kernel) ⟨by decide, by decide⟩) hX hA hP hD hS [0, 1, 2, 3, 4, 5, 6, 7] [] rfl rfl (by decide) (by decide) (by decide) (va_recv hX.1 hP (ci := 1) (q0 := 0) rfl rfl) rfl hl.1 rfl (Nat.le_of_ble_eq_true rfl) d_Reader_readFirstLine_19 ⟨Nat.zero_le _, Nat.zero_le _⟩ (fun H locs hP hD hS => ?_)
        obtain ⟨s_19, e_19⟩ : ∃ z : RS, z = (fTake T s_10 47).2 := ⟨_, rfl⟩
        have hP : va_P D vwCl (rdW ad cd T s_19) H := by rw [e_19]; exact hP
        have hD : va_D A (rdW ad cd T s_19) := by rw [e_19]; exact hD
        refine lv_if_eq (tgt := 45) hx hb d_Reader_readFirstLine_22 (by decide) (fun c_22 => ?_) (fun c_22 => ?_)
        · skip
          have c_22 : ((fTake T s_10 47).1) = false := bI_0 c_22
          refine lv_iconst (v := 0) hx hb d_Reader_readFirstLine_45 (by decide) ?_
          exact hret H locs s_19 false _ _ hP hD hS (pr2 (by first | (simp only [fFst, c_4, c_13, c_22, bnd_t c_4, bnd_t c_13, bnd_f c_22, ← e_1, ← e_10, ← e_19, fStop, if_true, if_false, Bool.false_eq_true, ↓reduceIte]; done) | (simp only [fFst, c_4, c_13, c_22, bnd_t c_4, bnd_t c_13, bnd_f c_22, ← e_1, ← e_10, ← e_19, fStop, if_true, if_false, Bool.false_eq_true, ↓reduceIte]; with_reducible rfl) | (simp only [fFst, c_4, c_13, c_22, bnd_t c_4, bnd_t c_13, bnd_f c_22, ← e_1, ← e_10, ← e_19, fStop, if_true, if_false, Bool.false_eq_true, ↓reduceIte]; rw [e_19]))) d_Reader_readFirstLine_46
        · skip
          have c_22 : ((fTake T s_10 47).1) = true := bI_1 c_22
          refine lv_aload_n hx hb d_Reader_readFirstLine_25 rfl (lv_at hl 0 rfl) ?_
          refine hx_Vz (wr := []) (As := []) (rest := []) hI (c_Reader_readTarget hT s_19 ) (cw_V (C := "HeadDesk$Reader") 0 hts m_116 m_118 m_119 m_57 m_117 (by decide +kernel) ⟨by decide, by decide⟩) hX hA hP hD hS [0, 1, 2, 3, 4, 5, 6, 7] [] rfl rfl (by decide) (by decide) (by decide) (va_recv hX.1 hP (ci := 1) (q0 := 0) rfl rfl) rfl hl.1 rfl (Nat.le_of_ble_eq_true rfl) d_Reader_readFirstLine_26 ⟨Nat.zero_le _, Nat.zero_le _⟩ (fun H locs hP hD hS => ?_)
          obtain ⟨s_26, e_26⟩ : ∃ z : RS, z = (fTgt T s_19).2 := ⟨_, rfl⟩
          have hP : va_P D vwCl (rdW ad cd T s_26) H := by rw [e_26]; exact hP
          have hD : va_D A (rdW ad cd T s_26) := by rw [e_26]; exact hD
          refine lv_if_eq (tgt := 45) hx hb d_Reader_readFirstLine_29 (by decide) (fun c_29 => ?_) (fun c_29 => ?_)
          · skip
            have c_29 : ((fTgt T s_19).1) = false := bI_0 c_29
            refine lv_iconst (v := 0) hx hb d_Reader_readFirstLine_45 (by decide) ?_
            exact hret H locs s_26 false _ _ hP hD hS (pr2 (by first | (simp only [fFst, c_4, c_13, c_22, c_29, bnd_t c_4, bnd_t c_13, bnd_t c_22, bnd_f c_29, ← e_1, ← e_10, ← e_19, ← e_26, fStop, if_true, if_false, Bool.false_eq_true, ↓reduceIte]; done) | (simp only [fFst, c_4, c_13, c_22, c_29, bnd_t c_4, bnd_t c_13, bnd_t c_22, bnd_f c_29, ← e_1, ← e_10, ← e_19, ← e_26, fStop, if_true, if_false, Bool.false_eq_true, ↓reduceIte]; with_reducible rfl) | (simp only [fFst, c_4, c_13, c_22, c_29, bnd_t c_4, bnd_t c_13, bnd_t c_22, bnd_f c_29, ← e_1, ← e_10, ← e_19, ← e_26, fStop, if_true, if_false, Bool.false_eq_true, ↓reduceIte]; rw [e_26]))) d_Reader_readFirstLine_46
          · skip
            have c_29 : ((fTgt T s_19).1) = true := bI_1 c_29
            refine lv_aload_n hx hb d_Reader_readFirstLine_32 rfl (lv_at hl 0 rfl) ?_
            refine lv_bipush (v := 10) hx hb d_Reader_readFirstLine_33 (by decide) ?_
            refine hx_Vz (wr := []) (As := [.int 10]) (rest := []) hI (c_Reader_take hT s_26 10) (cw_V (C := "HeadDesk$Reader") 1 hts m_112 m_114 m_115 m_57 m_113 (by decide +kernel) ⟨by decide, by decide⟩) hX hA hP hD hS [0, 1, 2, 3, 4, 5, 6, 7] [] rfl rfl (by decide) (by decide) (by decide) (va_recv hX.1 hP (ci := 1) (q0 := 0) rfl rfl) rfl hl.1 rfl (Nat.le_of_ble_eq_true rfl) d_Reader_readFirstLine_35 ⟨Nat.zero_le _, Nat.zero_le _⟩ (fun H locs hP hD hS => ?_)
            obtain ⟨s_35, e_35⟩ : ∃ z : RS, z = (fTake T s_26 10).2 := ⟨_, rfl⟩
            have hP : va_P D vwCl (rdW ad cd T s_35) H := by rw [e_35]; exact hP
            have hD : va_D A (rdW ad cd T s_35) := by rw [e_35]; exact hD
            refine lv_if_eq (tgt := 45) hx hb d_Reader_readFirstLine_38 (by decide) (fun c_38 => ?_) (fun c_38 => ?_)
            · skip
              have c_38 : ((fTake T s_26 10).1) = false := bI_0 c_38
              refine lv_iconst (v := 0) hx hb d_Reader_readFirstLine_45 (by decide) ?_
              exact hret H locs s_35 false _ _ hP hD hS (pr2 (by first | (simp only [fFst, c_4, c_13, c_22, c_29, c_38, bnd_t c_4, bnd_t c_13, bnd_t c_22, bnd_t c_29, bnd_f c_38, ← e_1, ← e_10, ← e_19, ← e_26, ← e_35, fStop, if_true, if_false, Bool.false_eq_true, ↓reduceIte]; done) | (simp only [fFst, c_4, c_13, c_22, c_29, c_38, bnd_t c_4, bnd_t c_13, bnd_t c_22, bnd_t c_29, bnd_f c_38, ← e_1, ← e_10, ← e_19, ← e_26, ← e_35, fStop, if_true, if_false, Bool.false_eq_true, ↓reduceIte]; with_reducible rfl) | (simp only [fFst, c_4, c_13, c_22, c_29, c_38, bnd_t c_4, bnd_t c_13, bnd_t c_22, bnd_t c_29, bnd_f c_38, ← e_1, ← e_10, ← e_19, ← e_26, ← e_35, fStop, if_true, if_false, Bool.false_eq_true, ↓reduceIte]; rw [e_35]))) d_Reader_readFirstLine_46
            · skip
              have c_38 : ((fTake T s_26 10).1) = true := bI_1 c_38
              refine lv_iconst (v := 1) hx hb d_Reader_readFirstLine_41 (by decide) ?_
              refine lv_goto (tgt := 46) hx hb d_Reader_readFirstLine_42 (by decide) ?_
              exact hret H locs s_35 true _ _ hP hD hS (pr2 (by first | (simp only [fFst, c_4, c_13, c_22, c_29, c_38, bnd_t c_4, bnd_t c_13, bnd_t c_22, bnd_t c_29, bnd_t c_38, ← e_1, ← e_10, ← e_19, ← e_26, ← e_35, fStop, if_true, if_false, Bool.false_eq_true, ↓reduceIte]; done) | (simp only [fFst, c_4, c_13, c_22, c_29, c_38, bnd_t c_4, bnd_t c_13, bnd_t c_22, bnd_t c_29, bnd_t c_38, ← e_1, ← e_10, ← e_19, ← e_26, ← e_35, fStop, if_true, if_false, Bool.false_eq_true, ↓reduceIte]; with_reducible rfl) | (simp only [fFst, c_4, c_13, c_22, c_29, c_38, bnd_t c_4, bnd_t c_13, bnd_t c_22, bnd_t c_29, bnd_t c_38, ← e_1, ← e_10, ← e_19, ← e_26, ← e_35, fStop, if_true, if_false, Bool.false_eq_true, ↓reduceIte]; rw [e_35]))) d_Reader_readFirstLine_46
  rw [hH, hlo] at goal
  exact goal
end
section
variable {l : Launch} {D : va_G} {ad : Nat → Nat} {cd : Nat → ClassId} {adK adV : Nat → Nat} {tF : Nat} {T : TX} {tys : List (ClassId × FieldType)}

set_option maxHeartbeats 4000000 in
set_option maxRecDepth 100000 in
theorem c_Reader_readRange (hT : T.2 ≤ 300) (st : RS)  : hx_Mz l D (tyH cd) adK adV tF (rdW ad cd T) y_Reader_readRange w_Reader_readRange (rmD 6) [.ref (ad 0)] st ((fRng T st t_bytes).1) ((fRng T st t_bytes).2) := by
  refine hx_Mz.of (cc := b_Reader_readRange) (maxL := 3) (by decide) rfl (Nat.le_of_ble_eq_true rfl) ?_
  intro p e s m below meth c A Q ls hI hX hA hP hD hS hl hret
  obtain ⟨hx, hb, hml, hown, hts⟩ := id hI
  have hts : ∀ w ∈ aw, w.before ([.ref (ad 0)] : List Value).toArray s = true := fun w h => hts w (List.mem_cons_of_mem _ h)
  have hown : s.vm.findClass "HeadDesk$Reader" = some m.cls := hown
  have hI : hx_In p s m ([.ref (ad 0)] : List Value).toArray c b_Reader_readRange 3 "HeadDesk$Reader" aw := ⟨hx, hb, hml, hown, hts⟩
  have hP : va_P D vwCl (rdW ad cd T st) s.heap := hP
  obtain ⟨H, hH⟩ : ∃ H, H = s.heap := ⟨_, rfl⟩
  obtain ⟨locs, hlo⟩ : ∃ locs : List Loc, locs = [] := ⟨_, rfl⟩
  have hS : va_S A s.heap H locs := by rw [hH, hlo]; exact hS
  have hP : va_P D vwCl (rdW ad cd T st) H := by rw [hH]; exact hP
  have hl : lv_has ls 3 [(0, .ref (ad 0))] := hl
  have goal : W p l e (rmD 6) s m ([.ref (ad 0)] : List Value).toArray below meth c H locs 0 0 Q (F0 m 0 ls []) := by
    refine lv_aload_n hx hb d_Reader_readRange_0 rfl (lv_at hl 0 rfl) ?_
    refine va_ldcS hx hb hown (hX.2.2.2.2.2.1 _ _ _ _ st_14) d_Reader_readRange_1 ?_
    refine hx_Vz (wr := []) (As := [.ref (adK 14)]) (rest := []) hI (c_Reader_takeAllL hT st (by decide) sw_14) (cw_V (C := "HeadDesk$Reader") 1 hts m_104 m_106 m_107 m_57 m_105 (by decide +kernel) ⟨by decide, by decide⟩) hX hA hP hD hS [0, 1, 2, 3, 4, 5, 6, 7] [] rfl rfl (by decide) (by decide) (by decide) (va_recv hX.1 hP (ci := 1) (q0 := 0) rfl rfl) rfl hl.1 rfl (Nat.le_of_ble_eq_true rfl) d_Reader_readRange_3 ⟨Nat.zero_le _, Nat.zero_le _⟩ (fun H locs hP hD hS => ?_)
    obtain ⟨s_3, e_3⟩ : ∃ z : RS, z = (fAll T t_bytes st).2 := ⟨_, rfl⟩
    have hP : va_P D vwCl (rdW ad cd T s_3) H := by rw [e_3]; exact hP
    have hD : va_D A (rdW ad cd T s_3) := by rw [e_3]; exact hD
    refine lv_if_ne (tgt := 11) hx hb d_Reader_readRange_6 (by decide) (fun c_6 => ?_) (fun c_6 => ?_)
    · skip
      have c_6 : ((fAll T t_bytes st).1) = true := bI_1 c_6
      refine lv_aload_n hx hb d_Reader_readRange_11 rfl (lv_at hl 0 rfl) ?_
      refine lv_bipush (v := 45) hx hb d_Reader_readRange_12 (by decide) ?_
      refine hx_Vz (wr := []) (As := [.int 45]) (rest := []) hI (c_Reader_skip hT s_3 45) (cw_V (C := "HeadDesk$Reader") 1 hts m_100 m_102 m_103 m_57 m_101 (by decide +kernel) ⟨by decide, by decide⟩) hX hA hP hD hS [0, 1, 2, 3, 4, 5, 6, 7] [] rfl rfl (by decide) (by decide) (by decide) (va_recv hX.1 hP (ci := 1) (q0 := 0) rfl rfl) rfl hl.1 rfl (Nat.le_of_ble_eq_true rfl) d_Reader_readRange_14 ⟨Nat.zero_le _, Nat.zero_le _⟩ (fun H locs hP hD hS => ?_)
      obtain ⟨s_14, e_14⟩ : ∃ z : RS, z = (fSkip T s_3 45).2 := ⟨_, rfl⟩
      have hP : va_P D vwCl (rdW ad cd T s_14) H := by rw [e_14]; exact hP
      have hD : va_D A (rdW ad cd T s_14) := by rw [e_14]; exact hD
      refine lv_istore_n (lv' := [(1, .int (bI (fSkip T s_3 45).1)), (0, .ref (ad 0))]) hx hb d_Reader_readRange_17 rfl hl (by decide) rfl (fun ls hl => ?_)
      refine lv_aload_n hx hb d_Reader_readRange_18 rfl (lv_at hl 1 rfl) ?_
      refine lv_ldc (v := 99999) hx hb hown (hts _ m_120) d_Reader_readRange_19 ?_
      refine hx_Vz (wr := []) (As := [.int 99999]) (rest := []) hI (c_Reader_takeNumber hT s_14 99999) (cw_V (C := "HeadDesk$Reader") 1 hts m_96 m_98 m_99 m_57 m_97 (by decide +kernel) ⟨by decide, by decide⟩) hX hA hP hD hS [0, 1, 2, 3, 4, 5, 6, 7] [] rfl rfl (by decide) (by decide) (by decide) (va_recv hX.1 hP (ci := 1) (q0 := 0) rfl rfl) rfl hl.1 rfl (Nat.le_of_ble_eq_true rfl) d_Reader_readRange_21 ⟨Nat.zero_le _, Nat.zero_le _⟩ (fun H locs hP hD hS => ?_)
      obtain ⟨s_21, e_21⟩ : ∃ z : RS, z = (fNum T s_14 99999).2 := ⟨_, rfl⟩
      have hP : va_P D vwCl (rdW ad cd T s_21) H := by rw [e_21]; exact hP
      have hD : va_D A (rdW ad cd T s_21) := by rw [e_21]; exact hD
      refine lv_if_ne (tgt := 29) hx hb d_Reader_readRange_24 (by decide) (fun c_24 => ?_) (fun c_24 => ?_)
      · skip
        have c_24 : ((fNum T s_14 99999).1) = true := bI_1 c_24
        refine lv_aload_n hx hb d_Reader_readRange_29 rfl (lv_at hl 1 rfl) ?_
        refine va_get (D := D) (ci := 1) (v := .int (rNb s_21)) (C := "HeadDesk$Reader") (T := F_Reader) (N := 11) hx hb hts a_Reader hown hX.1 hP 0 rfl rfl 8 (by decide) (hts _ m_62) (fun _ h9 => h9) rfl d_Reader_readRange_30 ?_
        refine lv_istore_n (lv' := [(2, .int (rNb s_21)), (1, .int (bI (fSkip T s_3 45).1)), (0, .ref (ad 0))]) hx hb d_Reader_readRange_33 rfl hl (by decide) rfl (fun ls hl => ?_)
        refine lv_iload_n hx hb d_Reader_readRange_34 rfl (lv_at hl 1 rfl) ?_
        refine lv_if_eq (tgt := 50) hx hb d_Reader_readRange_35 (by decide) (fun c_35 => ?_) (fun c_35 => ?_)
        · skip
          have c_35 : ((fSkip T s_3 45).1) = false := bI_0 c_35
          refine lv_aload_n hx hb d_Reader_readRange_50 rfl (lv_at hl 2 rfl) ?_
          refine lv_bipush (v := 45) hx hb d_Reader_readRange_51 (by decide) ?_
          refine hx_Vz (wr := []) (As := [.int 45]) (rest := []) hI (c_Reader_take hT s_21 45) (cw_V (C := "HeadDesk$Reader") 1 hts m_112 m_114 m_115 m_57 m_113 (by decide +kernel) ⟨by decide, by decide⟩) hX hA hP hD hS [0, 1, 2, 3, 4, 5, 6, 7] [] rfl rfl (by decide) (by decide) (by decide) (va_recv hX.1 hP (ci := 1) (q0 := 0) rfl rfl) rfl hl.1 rfl (Nat.le_of_ble_eq_true rfl) d_Reader_readRange_53 ⟨Nat.zero_le _, Nat.zero_le _⟩ (fun H locs hP hD hS => ?_)
          obtain ⟨s_53, e_53⟩ : ∃ z : RS, z = (fTake T s_21 45).2 := ⟨_, rfl⟩
          have hP : va_P D vwCl (rdW ad cd T s_53) H := by rw [e_53]; exact hP
          have hD : va_D A (rdW ad cd T s_53) := by rw [e_53]; exact hD
          refine lv_if_ne (tgt := 61) hx hb d_Reader_readRange_56 (by decide) (fun c_56 => ?_) (fun c_56 => ?_)
          · skip
            have c_56 : ((fTake T s_21 45).1) = true := bI_1 c_56
            refine lv_aload_n hx hb d_Reader_readRange_61 rfl (lv_at hl 2 rfl) ?_
            refine hx_Vi (wr := []) (As := []) (rest := []) hI (c_Reader_mark hT s_53 ) (cw_V (C := "HeadDesk$Reader") 0 hts m_53 m_55 m_56 m_57 m_54 (by decide +kernel) ⟨by decide, by decide⟩) hX hA hP hD hS [0, 1, 2, 3, 4, 5, 6, 7] [] rfl rfl (by decide) (by decide) (by decide) (va_recv hX.1 hP (ci := 1) (q0 := 0) rfl rfl) rfl hl.1 rfl (Nat.le_of_ble_eq_true rfl) d_Reader_readRange_62 ⟨Nat.zero_le _, Nat.zero_le _⟩ (fun H locs hP hD hS => ?_)
            have hP : va_P D vwCl (rdW ad cd T s_53) H := hP
            have hD : va_D A (rdW ad cd T s_53) := hD
            refine hx_Sz (wr := [(ad 0, .inr (1, [.ref (ad 1), .ref (ad 3), .ref (ad 4), .ref (ad 5), .int (rNm s_53), .int (rKd s_53), .int (rPl s_53), .int (rSk s_53), .int (rNb s_53), .int (rWs s_53), .int (rWe s_53)])), (ad 1, .inr (2, [.ref (ad 2), .int (T.2)])), (ad 2, .inl (cd 0, 300, .inl T.1)), (ad 3, .inl (cd 1, 100, .inl (rNs s_53))), (ad 4, .inl (cd 2, 100, .inl (rNe s_53))), (ad 5, .inr (0, [.ref (ad 6), .ref (ad 7)])), (ad 6, .inl (cd 3, 18, .inl (rVs s_53))), (ad 7, .inl (cd 4, 8, .inl (rVr s_53)))]) (As := [.int (fMark T s_53)]) (rest := []) hI (c_Reader_isDigit (fMark T s_53)) (cw_S 1 hts m_63 m_65 m_57 m_64 (by decide +kernel) ⟨by decide, by decide⟩) hX hA hP hD hS [] [0, 1, 2, 3, 4, 5, 6, 7] rfl rfl (by decide) (by decide) (by decide) rfl hl.1 rfl (Nat.le_of_ble_eq_true rfl) d_Reader_readRange_65 ⟨Nat.zero_le _, Nat.zero_le _⟩ (fun H locs hP hD hS => ?_)
            have hP : va_P D vwCl (rdW ad cd T s_53) H := hP.sub [0, 1, 2, 3, 4, 5, 6, 7] rfl
            have hD : va_D A (rdW ad cd T s_53) := hD.sub [0, 1, 2, 3, 4, 5, 6, 7] (by decide) rfl
            refine lv_if_ne (tgt := 83) hx hb d_Reader_readRange_68 (by decide) (fun c_68 => ?_) (fun c_68 => ?_)
            · skip
              have c_68 : (isD (fMark T s_53)) = true := bI_1 c_68
              refine lv_aload_n hx hb d_Reader_readRange_83 rfl (lv_at hl 2 rfl) ?_
              refine lv_ldc (v := 99999) hx hb hown (hts _ m_120) d_Reader_readRange_84 ?_
              refine hx_Vz (wr := []) (As := [.int 99999]) (rest := []) hI (c_Reader_takeNumber hT s_53 99999) (cw_V (C := "HeadDesk$Reader") 1 hts m_96 m_98 m_99 m_57 m_97 (by decide +kernel) ⟨by decide, by decide⟩) hX hA hP hD hS [0, 1, 2, 3, 4, 5, 6, 7] [] rfl rfl (by decide) (by decide) (by decide) (va_recv hX.1 hP (ci := 1) (q0 := 0) rfl rfl) rfl hl.1 rfl (Nat.le_of_ble_eq_true rfl) d_Reader_readRange_86 ⟨Nat.zero_le _, Nat.zero_le _⟩ (fun H locs hP hD hS => ?_)
              obtain ⟨s_86, e_86⟩ : ∃ z : RS, z = (fNum T s_53 99999).2 := ⟨_, rfl⟩
              have hP : va_P D vwCl (rdW ad cd T s_86) H := by rw [e_86]; exact hP
              have hD : va_D A (rdW ad cd T s_86) := by rw [e_86]; exact hD
              refine lv_if_ne (tgt := 94) hx hb d_Reader_readRange_89 (by decide) (fun c_89 => ?_) (fun c_89 => ?_)
              · skip
                have c_89 : ((fNum T s_53 99999).1) = true := bI_1 c_89
                refine lv_iload_n hx hb d_Reader_readRange_94 rfl (lv_at hl 0 rfl) ?_
                refine lv_aload_n hx hb d_Reader_readRange_95 rfl (lv_at hl 2 rfl) ?_
                refine va_get (D := D) (ci := 1) (v := .int (rNb s_86)) (C := "HeadDesk$Reader") (T := F_Reader) (N := 11) hx hb hts a_Reader hown hX.1 hP 0 rfl rfl 8 (by decide) (hts _ m_62) (fun _ h9 => h9) rfl d_Reader_readRange_96 ?_
                refine lv_icmp_gt (tgt := 115) hx hb d_Reader_readRange_99 (by decide) (fun c_99 => ?_) (fun c_99 => ?_)
                · skip
                  have c_99 : (rNb s_86 < rNb s_21) := c_99
                  refine lv_iconst (v := 1) hx hb d_Reader_readRange_115 (by decide) ?_
                  exact hret H locs s_86 true _ _ hP hD hS (pr2 (by first | (simp only [fRng, fRngE, c_6, c_24, c_35, c_56, c_68, c_89, if_pos c_99, bnd_t c_6, bnd_t c_24, bnd_f c_35, bnd_t c_56, bnd_t c_89, ← e_3, ← e_14, ← e_21, ← e_53, ← e_86, fStop, if_true, if_false, Bool.false_eq_true, ↓reduceIte]; done) | (simp only [fRng, fRngE, c_6, c_24, c_35, c_56, c_68, c_89, if_pos c_99, bnd_t c_6, bnd_t c_24, bnd_f c_35, bnd_t c_56, bnd_t c_89, ← e_3, ← e_14, ← e_21, ← e_53, ← e_86, fStop, if_true, if_false, Bool.false_eq_true, ↓reduceIte]; with_reducible rfl) | (simp only [fRng, fRngE, c_6, c_24, c_35, c_56, c_68, c_89, if_pos c_99, bnd_t c_6, bnd_t c_24, bnd_f c_35, bnd_t c_56, bnd_t c_89, ← e_3, ← e_14, ← e_21, ← e_53, ← e_86, fStop, if_true, if_false, Bool.false_eq_true, ↓reduceIte]; rw [e_86]))) d_Reader_readRange_116
                · skip
                  have c_99 : ¬ (rNb s_86 < rNb s_21) := c_99
                  refine lv_aload_n hx hb d_Reader_readRange_102 rfl (lv_at hl 2 rfl) ?_
                  refine va_get (D := D) (ci := 1) (v := .ref (ad 5)) (C := "HeadDesk$Reader") (T := F_Reader) (N := 11) hx hb hts a_Reader hown hX.1 hP 0 rfl rfl 3 (by decide) (hts _ m_91) (fun _ h9 => h9) rfl d_Reader_readRange_103 ?_
                  refine lv_iconst (v := 1) hx hb d_Reader_readRange_106 (by decide) ?_
                  refine lv_iload_n hx hb d_Reader_readRange_107 rfl (lv_at hl 0 rfl) ?_
                  refine lv_aload_n hx hb d_Reader_readRange_108 rfl (lv_at hl 2 rfl) ?_
                  refine va_get (D := D) (ci := 1) (v := .int (rNb s_86)) (C := "HeadDesk$Reader") (T := F_Reader) (N := 11) hx hb hts a_Reader hown hX.1 hP 0 rfl rfl 8 (by decide) (hts _ m_62) (fun _ h9 => h9) rfl d_Reader_readRange_109 ?_
                  refine hx_Vv (wr := [(ad 0, .inr (1, [.ref (ad 1), .ref (ad 3), .ref (ad 4), .ref (ad 5), .int (rNm s_86), .int (rKd s_86), .int (rPl s_86), .int (rSk s_86), .int (rNb s_86), .int (rWs s_86), .int (rWe s_86)])), (ad 1, .inr (2, [.ref (ad 2), .int (T.2)])), (ad 2, .inl (cd 0, 300, .inl T.1)), (ad 3, .inl (cd 1, 100, .inl (rNs s_86))), (ad 4, .inl (cd 2, 100, .inl (rNe s_86)))]) (As := [.int 1, .int (rNb s_21), .int (rNb s_86)]) (rest := []) hI (c_Head_setRange (ah := ad 5) (av := ad 6) (ar := ad 7) (cv := cd 3) (cr := cd 4) (tv := 3) (tr := 4) rfl rfl (rVs s_86, rVr s_86) 1 (rNb s_21) (rNb s_86)) (cw_V (C := "HeadDesk$Head") 3 hts m_121 m_123 m_124 m_40 m_122 (by decide +kernel) ⟨by decide, by decide⟩) hX hA hP hD hS [5, 6, 7] [0, 1, 2, 3, 4] rfl rfl (by decide) (by decide) (by decide) (va_recv hX.1 hP (ci := 0) (q0 := 5) rfl rfl) rfl hl.1 rfl (Nat.le_of_ble_eq_true rfl) d_Reader_readRange_112 ⟨Nat.zero_le _, Nat.zero_le _⟩ (fun H locs hP hD hS => ?_)
                  obtain ⟨s_112, e_112⟩ : ∃ z : RS, z = sVs s_86 (hRng (rVs s_86) 1 (rNb s_21) (rNb s_86)) := ⟨_, rfl⟩
                  have hP : va_P D vwCl (rdW ad cd T s_112) H := by rw [e_112]; exact hP.sub [0, 1, 2, 3, 4, 5, 6, 7] rfl
                  have hD : va_D A (rdW ad cd T s_112) := by rw [e_112]; exact hD.sub [0, 1, 2, 3, 4, 5, 6, 7] (by decide) rfl
                  refine lv_iconst (v := 1) hx hb d_Reader_readRange_115 (by decide) ?_
                  exact hret H locs s_112 true _ _ hP hD hS (pr2 (by first | (simp only [fRng, fRngE, c_6, c_24, c_35, c_56, c_68, c_89, if_neg c_99, bnd_t c_6, bnd_t c_24, bnd_f c_35, bnd_t c_56, bnd_t c_89, ← e_3, ← e_14, ← e_21, ← e_53, ← e_86, ← e_112, fStop, if_true, if_false, Bool.false_eq_true, ↓reduceIte]; done) | (simp only [fRng, fRngE, c_6, c_24, c_35, c_56, c_68, c_89, if_neg c_99, bnd_t c_6, bnd_t c_24, bnd_f c_35, bnd_t c_56, bnd_t c_89, ← e_3, ← e_14, ← e_21, ← e_53, ← e_86, ← e_112, fStop, if_true, if_false, Bool.false_eq_true, ↓reduceIte]; with_reducible rfl) | (simp only [fRng, fRngE, c_6, c_24, c_35, c_56, c_68, c_89, if_neg c_99, bnd_t c_6, bnd_t c_24, bnd_f c_35, bnd_t c_56, bnd_t c_89, ← e_3, ← e_14, ← e_21, ← e_53, ← e_86, ← e_112, fStop, if_true, if_false, Bool.false_eq_true, ↓reduceIte]; rw [e_112]))) d_Reader_readRange_116
              · skip
                have c_89 : ((fNum T s_53 99999).1) = false := bI_0 c_89
                refine lv_iconst (v := 0) hx hb d_Reader_readRange_92 (by decide) ?_
                exact hret H locs s_86 false _ _ hP hD hS (pr2 (by first | (simp only [fRng, fRngE, c_6, c_24, c_35, c_56, c_68, c_89, bnd_t c_6, bnd_t c_24, bnd_f c_35, bnd_t c_56, bnd_f c_89, ← e_3, ← e_14, ← e_21, ← e_53, ← e_86, fStop, if_true, if_false, Bool.false_eq_true, ↓reduceIte]; done) | (simp only [fRng, fRngE, c_6, c_24, c_35, c_56, c_68, c_89, bnd_t c_6, bnd_t c_24, bnd_f c_35, bnd_t c_56, bnd_f c_89, ← e_3, ← e_14, ← e_21, ← e_53, ← e_86, fStop, if_true, if_false, Bool.false_eq_true, ↓reduceIte]; with_reducible rfl) | (simp only [fRng, fRngE, c_6, c_24, c_35, c_56, c_68, c_89, bnd_t c_6, bnd_t c_24, bnd_f c_35, bnd_t c_56, bnd_f c_89, ← e_3, ← e_14, ← e_21, ← e_53, ← e_86, fStop, if_true, if_false, Bool.false_eq_true, ↓reduceIte]; rw [e_86]))) d_Reader_readRange_93
            · skip
              have c_68 : (isD (fMark T s_53)) = false := bI_0 c_68
              refine lv_aload_n hx hb d_Reader_readRange_71 rfl (lv_at hl 2 rfl) ?_
              refine va_get (D := D) (ci := 1) (v := .ref (ad 5)) (C := "HeadDesk$Reader") (T := F_Reader) (N := 11) hx hb hts a_Reader hown hX.1 hP 0 rfl rfl 3 (by decide) (hts _ m_91) (fun _ h9 => h9) rfl d_Reader_readRange_72 ?_
              refine lv_iconst (v := 2) hx hb d_Reader_readRange_75 (by decide) ?_
              refine lv_iload_n hx hb d_Reader_readRange_76 rfl (lv_at hl 0 rfl) ?_
              refine lv_iconst (v := (-1)) hx hb d_Reader_readRange_77 (by decide) ?_
              refine hx_Vv (wr := [(ad 0, .inr (1, [.ref (ad 1), .ref (ad 3), .ref (ad 4), .ref (ad 5), .int (rNm s_53), .int (rKd s_53), .int (rPl s_53), .int (rSk s_53), .int (rNb s_53), .int (rWs s_53), .int (rWe s_53)])), (ad 1, .inr (2, [.ref (ad 2), .int (T.2)])), (ad 2, .inl (cd 0, 300, .inl T.1)), (ad 3, .inl (cd 1, 100, .inl (rNs s_53))), (ad 4, .inl (cd 2, 100, .inl (rNe s_53)))]) (As := [.int 2, .int (rNb s_21), .int (-1)]) (rest := []) hI (c_Head_setRange (ah := ad 5) (av := ad 6) (ar := ad 7) (cv := cd 3) (cr := cd 4) (tv := 3) (tr := 4) rfl rfl (rVs s_53, rVr s_53) 2 (rNb s_21) (-1)) (cw_V (C := "HeadDesk$Head") 3 hts m_121 m_123 m_124 m_40 m_122 (by decide +kernel) ⟨by decide, by decide⟩) hX hA hP hD hS [5, 6, 7] [0, 1, 2, 3, 4] rfl rfl (by decide) (by decide) (by decide) (va_recv hX.1 hP (ci := 0) (q0 := 5) rfl rfl) rfl hl.1 rfl (Nat.le_of_ble_eq_true rfl) d_Reader_readRange_78 ⟨Nat.zero_le _, Nat.zero_le _⟩ (fun H locs hP hD hS => ?_)
              obtain ⟨s_78, e_78⟩ : ∃ z : RS, z = sVs s_53 (hRng (rVs s_53) 2 (rNb s_21) (-1)) := ⟨_, rfl⟩
              have hP : va_P D vwCl (rdW ad cd T s_78) H := by rw [e_78]; exact hP.sub [0, 1, 2, 3, 4, 5, 6, 7] rfl
              have hD : va_D A (rdW ad cd T s_78) := by rw [e_78]; exact hD.sub [0, 1, 2, 3, 4, 5, 6, 7] (by decide) rfl
              refine lv_iconst (v := 1) hx hb d_Reader_readRange_81 (by decide) ?_
              exact hret H locs s_78 true _ _ hP hD hS (pr2 (by first | (simp only [fRng, fRngE, c_6, c_24, c_35, c_56, c_68, bnd_t c_6, bnd_t c_24, bnd_f c_35, bnd_t c_56, ← e_3, ← e_14, ← e_21, ← e_53, ← e_78, fStop, if_true, if_false, Bool.false_eq_true, ↓reduceIte]; done) | (simp only [fRng, fRngE, c_6, c_24, c_35, c_56, c_68, bnd_t c_6, bnd_t c_24, bnd_f c_35, bnd_t c_56, ← e_3, ← e_14, ← e_21, ← e_53, ← e_78, fStop, if_true, if_false, Bool.false_eq_true, ↓reduceIte]; with_reducible rfl) | (simp only [fRng, fRngE, c_6, c_24, c_35, c_56, c_68, bnd_t c_6, bnd_t c_24, bnd_f c_35, bnd_t c_56, ← e_3, ← e_14, ← e_21, ← e_53, ← e_78, fStop, if_true, if_false, Bool.false_eq_true, ↓reduceIte]; rw [e_78]))) d_Reader_readRange_82
          · skip
            have c_56 : ((fTake T s_21 45).1) = false := bI_0 c_56
            refine lv_iconst (v := 0) hx hb d_Reader_readRange_59 (by decide) ?_
            exact hret H locs s_53 false _ _ hP hD hS (pr2 (by first | (simp only [fRng, fRngE, c_6, c_24, c_35, c_56, bnd_t c_6, bnd_t c_24, bnd_f c_35, bnd_f c_56, ← e_3, ← e_14, ← e_21, ← e_53, fStop, if_true, if_false, Bool.false_eq_true, ↓reduceIte]; done) | (simp only [fRng, fRngE, c_6, c_24, c_35, c_56, bnd_t c_6, bnd_t c_24, bnd_f c_35, bnd_f c_56, ← e_3, ← e_14, ← e_21, ← e_53, fStop, if_true, if_false, Bool.false_eq_true, ↓reduceIte]; with_reducible rfl) | (simp only [fRng, fRngE, c_6, c_24, c_35, c_56, bnd_t c_6, bnd_t c_24, bnd_f c_35, bnd_f c_56, ← e_3, ← e_14, ← e_21, ← e_53, fStop, if_true, if_false, Bool.false_eq_true, ↓reduceIte]; rw [e_53]))) d_Reader_readRange_60
        · skip
          have c_35 : ((fSkip T s_3 45).1) = true := bI_1 c_35
          refine lv_aload_n hx hb d_Reader_readRange_38 rfl (lv_at hl 2 rfl) ?_
          refine va_get (D := D) (ci := 1) (v := .ref (ad 5)) (C := "HeadDesk$Reader") (T := F_Reader) (N := 11) hx hb hts a_Reader hown hX.1 hP 0 rfl rfl 3 (by decide) (hts _ m_91) (fun _ h9 => h9) rfl d_Reader_readRange_39 ?_
          refine lv_iconst (v := 3) hx hb d_Reader_readRange_42 (by decide) ?_
          refine lv_iload_n hx hb d_Reader_readRange_43 rfl (lv_at hl 0 rfl) ?_
          refine lv_iconst (v := (-1)) hx hb d_Reader_readRange_44 (by decide) ?_
          refine hx_Vv (wr := [(ad 0, .inr (1, [.ref (ad 1), .ref (ad 3), .ref (ad 4), .ref (ad 5), .int (rNm s_21), .int (rKd s_21), .int (rPl s_21), .int (rSk s_21), .int (rNb s_21), .int (rWs s_21), .int (rWe s_21)])), (ad 1, .inr (2, [.ref (ad 2), .int (T.2)])), (ad 2, .inl (cd 0, 300, .inl T.1)), (ad 3, .inl (cd 1, 100, .inl (rNs s_21))), (ad 4, .inl (cd 2, 100, .inl (rNe s_21)))]) (As := [.int 3, .int (rNb s_21), .int (-1)]) (rest := []) hI (c_Head_setRange (ah := ad 5) (av := ad 6) (ar := ad 7) (cv := cd 3) (cr := cd 4) (tv := 3) (tr := 4) rfl rfl (rVs s_21, rVr s_21) 3 (rNb s_21) (-1)) (cw_V (C := "HeadDesk$Head") 3 hts m_121 m_123 m_124 m_40 m_122 (by decide +kernel) ⟨by decide, by decide⟩) hX hA hP hD hS [5, 6, 7] [0, 1, 2, 3, 4] rfl rfl (by decide) (by decide) (by decide) (va_recv hX.1 hP (ci := 0) (q0 := 5) rfl rfl) rfl hl.1 rfl (Nat.le_of_ble_eq_true rfl) d_Reader_readRange_45 ⟨Nat.zero_le _, Nat.zero_le _⟩ (fun H locs hP hD hS => ?_)
          obtain ⟨s_45, e_45⟩ : ∃ z : RS, z = sVs s_21 (hRng (rVs s_21) 3 (rNb s_21) (-1)) := ⟨_, rfl⟩
          have hP : va_P D vwCl (rdW ad cd T s_45) H := by rw [e_45]; exact hP.sub [0, 1, 2, 3, 4, 5, 6, 7] rfl
          have hD : va_D A (rdW ad cd T s_45) := by rw [e_45]; exact hD.sub [0, 1, 2, 3, 4, 5, 6, 7] (by decide) rfl
          refine lv_iconst (v := 1) hx hb d_Reader_readRange_48 (by decide) ?_
          exact hret H locs s_45 true _ _ hP hD hS (pr2 (by first | (simp only [fRng, fRngE, c_6, c_24, c_35, bnd_t c_6, bnd_t c_24, bnd_t c_35, ← e_3, ← e_14, ← e_21, ← e_45, fStop, if_true, if_false, Bool.false_eq_true, ↓reduceIte]; done) | (simp only [fRng, fRngE, c_6, c_24, c_35, bnd_t c_6, bnd_t c_24, bnd_t c_35, ← e_3, ← e_14, ← e_21, ← e_45, fStop, if_true, if_false, Bool.false_eq_true, ↓reduceIte]; with_reducible rfl) | (simp only [fRng, fRngE, c_6, c_24, c_35, bnd_t c_6, bnd_t c_24, bnd_t c_35, ← e_3, ← e_14, ← e_21, ← e_45, fStop, if_true, if_false, Bool.false_eq_true, ↓reduceIte]; rw [e_45]))) d_Reader_readRange_49
      · skip
        have c_24 : ((fNum T s_14 99999).1) = false := bI_0 c_24
        refine lv_iconst (v := 0) hx hb d_Reader_readRange_27 (by decide) ?_
        exact hret H locs s_21 false _ _ hP hD hS (pr2 (by first | (simp only [fRng, fRngE, c_6, c_24, bnd_t c_6, bnd_f c_24, ← e_3, ← e_14, ← e_21, fStop, if_true, if_false, Bool.false_eq_true, ↓reduceIte]; done) | (simp only [fRng, fRngE, c_6, c_24, bnd_t c_6, bnd_f c_24, ← e_3, ← e_14, ← e_21, fStop, if_true, if_false, Bool.false_eq_true, ↓reduceIte]; with_reducible rfl) | (simp only [fRng, fRngE, c_6, c_24, bnd_t c_6, bnd_f c_24, ← e_3, ← e_14, ← e_21, fStop, if_true, if_false, Bool.false_eq_true, ↓reduceIte]; rw [e_21]))) d_Reader_readRange_28
    · skip
      have c_6 : ((fAll T t_bytes st).1) = false := bI_0 c_6
      refine lv_iconst (v := 0) hx hb d_Reader_readRange_9 (by decide) ?_
      exact hret H locs s_3 false _ _ hP hD hS (pr2 (by first | (simp only [fRng, fRngE, c_6, bnd_f c_6, ← e_3, fStop, if_true, if_false, Bool.false_eq_true, ↓reduceIte]; done) | (simp only [fRng, fRngE, c_6, bnd_f c_6, ← e_3, fStop, if_true, if_false, Bool.false_eq_true, ↓reduceIte]; with_reducible rfl) | (simp only [fRng, fRngE, c_6, bnd_f c_6, ← e_3, fStop, if_true, if_false, Bool.false_eq_true, ↓reduceIte]; rw [e_3]))) d_Reader_readRange_10
  rw [hH, hlo] at goal
  exact goal
set_option maxHeartbeats 4000000 in
set_option maxRecDepth 100000 in
theorem c_Reader_readName (hT : T.2 ≤ 300) (st : RS) (hN : 0 ≤ rNm st) : hx_Mz l D (tyH cd) adK adV tF (rdW ad cd T) y_Reader_readName w_Reader_readName (rmD 4) [.ref (ad 0)] st ((fNam T st).1) ((fNam T st).2) := by
  refine hx_Mz.of (cc := b_Reader_readName) (maxL := 1) (by decide) rfl (Nat.le_of_ble_eq_true rfl) ?_
  intro p e s m below meth c A Q ls hI hX hA hP hD hS hl hret
  obtain ⟨hx, hb, hml, hown, hts⟩ := id hI
  have hts : ∀ w ∈ aw, w.before ([.ref (ad 0)] : List Value).toArray s = true := fun w h => hts w (List.mem_cons_of_mem _ h)
  have hown : s.vm.findClass "HeadDesk$Reader" = some m.cls := hown
  have hI : hx_In p s m ([.ref (ad 0)] : List Value).toArray c b_Reader_readName 1 "HeadDesk$Reader" aw := ⟨hx, hb, hml, hown, hts⟩
  have hP : va_P D vwCl (rdW ad cd T st) s.heap := hP
  obtain ⟨H, hH⟩ : ∃ H, H = s.heap := ⟨_, rfl⟩
  obtain ⟨locs, hlo⟩ : ∃ locs : List Loc, locs = [] := ⟨_, rfl⟩
  have hS : va_S A s.heap H locs := by rw [hH, hlo]; exact hS
  have hP : va_P D vwCl (rdW ad cd T st) H := by rw [hH]; exact hP
  have hl : lv_has ls 1 [(0, .ref (ad 0))] := hl
  have goal : W p l e (rmD 4) s m ([.ref (ad 0)] : List Value).toArray below meth c H locs 0 0 Q (F0 m 0 ls []) := by
    refine lv_aload_n hx hb d_Reader_readName_0 rfl (lv_at hl 0 rfl) ?_
    refine lv_bipush (v := 20) hx hb d_Reader_readName_1 (by decide) ?_
    refine hx_Vz (wr := []) (As := [.int 20]) (rest := []) hI (c_Reader_takeLetters hT st 20 (by decide)) (cw_V (C := "HeadDesk$Reader") 1 hts m_125 m_127 m_128 m_57 m_126 (by decide +kernel) ⟨by decide, by decide⟩) hX hA hP hD hS [0, 1, 2, 3, 4, 5, 6, 7] [] rfl rfl (by decide) (by decide) (by decide) (va_recv hX.1 hP (ci := 1) (q0 := 0) rfl rfl) rfl hl.1 rfl (Nat.le_of_ble_eq_true rfl) d_Reader_readName_3 ⟨Nat.zero_le _, Nat.zero_le _⟩ (fun H locs hP hD hS => ?_)
    obtain ⟨s_3, e_3⟩ : ∃ z : RS, z = (fLet T st 20).2 := ⟨_, rfl⟩
    have hP : va_P D vwCl (rdW ad cd T s_3) H := by rw [e_3]; exact hP
    have hD : va_D A (rdW ad cd T s_3) := by rw [e_3]; exact hD
    refine lv_if_eq (tgt := 18) hx hb d_Reader_readName_6 (by decide) (fun c_6 => ?_) (fun c_6 => ?_)
    · skip
      have c_6 : ((fLet T st 20).1) = false := bI_0 c_6
      refine lv_iconst (v := 0) hx hb d_Reader_readName_18 (by decide) ?_
      exact hret H locs s_3 false _ _ hP hD hS (pr2 (by first | (simp only [fNam, fNamE, c_6, bnd_f c_6, ← e_3, fStop, if_true, if_false, Bool.false_eq_true, ↓reduceIte]; done) | (simp only [fNam, fNamE, c_6, bnd_f c_6, ← e_3, fStop, if_true, if_false, Bool.false_eq_true, ↓reduceIte]; with_reducible rfl) | (simp only [fNam, fNamE, c_6, bnd_f c_6, ← e_3, fStop, if_true, if_false, Bool.false_eq_true, ↓reduceIte]; rw [e_3]))) d_Reader_readName_19
    · skip
      have c_6 : ((fLet T st 20).1) = true := bI_1 c_6
      refine lv_aload_n hx hb d_Reader_readName_9 rfl (lv_at hl 0 rfl) ?_
      refine lv_bipush (v := 58) hx hb d_Reader_readName_10 (by decide) ?_
      refine hx_Vz (wr := []) (As := [.int 58]) (rest := []) hI (c_Reader_take hT s_3 58) (cw_V (C := "HeadDesk$Reader") 1 hts m_112 m_114 m_115 m_57 m_113 (by decide +kernel) ⟨by decide, by decide⟩) hX hA hP hD hS [0, 1, 2, 3, 4, 5, 6, 7] [] rfl rfl (by decide) (by decide) (by decide) (va_recv hX.1 hP (ci := 1) (q0 := 0) rfl rfl) rfl hl.1 rfl (Nat.le_of_ble_eq_true rfl) d_Reader_readName_12 ⟨Nat.zero_le _, Nat.zero_le _⟩ (fun H locs hP hD hS => ?_)
      obtain ⟨s_12, e_12⟩ : ∃ z : RS, z = (fTake T s_3 58).2 := ⟨_, rfl⟩
      have hP : va_P D vwCl (rdW ad cd T s_12) H := by rw [e_12]; exact hP
      have hD : va_D A (rdW ad cd T s_12) := by rw [e_12]; exact hD
      refine lv_if_ne (tgt := 20) hx hb d_Reader_readName_15 (by decide) (fun c_15 => ?_) (fun c_15 => ?_)
      · skip
        have c_15 : ((fTake T s_3 58).1) = true := bI_1 c_15
        refine lv_aload_n hx hb d_Reader_readName_20 rfl (lv_at hl 0 rfl) ?_
        refine va_get (D := D) (ci := 1) (v := .int (rNm s_12)) (C := "HeadDesk$Reader") (T := F_Reader) (N := 11) hx hb hts a_Reader hown hX.1 hP 0 rfl rfl 4 (by decide) (hts _ m_71) (fun _ h9 => h9) rfl d_Reader_readName_21 ?_
        refine lv_bipush (v := 100) hx hb d_Reader_readName_24 (by decide) ?_
        refine lv_icmp_ge (tgt := 36) hx hb d_Reader_readName_26 (by decide) (fun c_26 => ?_) (fun c_26 => ?_)
        · skip
          have c_26 : (100 ≤ rNm s_12) := c_26
          refine lv_aload_n hx hb d_Reader_readName_36 rfl (lv_at hl 0 rfl) ?_
          refine lv_aload_n hx hb d_Reader_readName_37 rfl (lv_at hl 0 rfl) ?_
          refine va_get (D := D) (ci := 1) (v := .int (rWs s_12)) (C := "HeadDesk$Reader") (T := F_Reader) (N := 11) hx hb hts a_Reader hown hX.1 hP 0 rfl rfl 9 (by decide) (hts _ m_66) (fun _ h9 => h9) rfl d_Reader_readName_38 ?_
          refine hx_Vz (wr := []) (As := [.int (rWs s_12)]) (rest := []) hI (c_Reader_stop hT s_12 (rWs s_12)) (cw_V (C := "HeadDesk$Reader") 1 hts m_58 m_60 m_61 m_57 m_59 (by decide +kernel) ⟨by decide, by decide⟩) hX hA hP hD hS [0, 1, 2, 3, 4, 5, 6, 7] [] rfl rfl (by decide) (by decide) (by decide) (va_recv hX.1 hP (ci := 1) (q0 := 0) rfl rfl) rfl hl.1 rfl (Nat.le_of_ble_eq_true rfl) d_Reader_readName_41 ⟨Nat.zero_le _, Nat.zero_le _⟩ (fun H locs hP hD hS => ?_)
          obtain ⟨s_41, e_41⟩ : ∃ z : RS, z = sSk s_12 (rWs s_12) := ⟨_, rfl⟩
          have hP : va_P D vwCl (rdW ad cd T s_41) H := by rw [e_41]; exact hP
          have hD : va_D A (rdW ad cd T s_41) := by rw [e_41]; exact hD
          exact hret H locs s_41 false _ _ hP hD hS (pr2 (by first | (simp only [fNam, fNamE, c_6, c_15, if_pos c_26, bnd_t c_6, bnd_t c_15, ← e_3, ← e_12, ← e_41, fStop, if_true, if_false, Bool.false_eq_true, ↓reduceIte]; done) | (simp only [fNam, fNamE, c_6, c_15, if_pos c_26, bnd_t c_6, bnd_t c_15, ← e_3, ← e_12, ← e_41, fStop, if_true, if_false, Bool.false_eq_true, ↓reduceIte]; with_reducible rfl) | (simp only [fNam, fNamE, c_6, c_15, if_pos c_26, bnd_t c_6, bnd_t c_15, ← e_3, ← e_12, ← e_41, fStop, if_true, if_false, Bool.false_eq_true, ↓reduceIte]; rw [e_41]))) d_Reader_readName_44
        · skip
          have c_26 : ¬ (100 ≤ rNm s_12) := c_26
          refine lv_aload_n hx hb d_Reader_readName_29 rfl (lv_at hl 0 rfl) ?_
          refine hx_Vz (wr := []) (As := []) (rest := []) hI (c_Reader_wasThere hT s_12 ) (cw_V (C := "HeadDesk$Reader") 0 hts m_129 m_131 m_132 m_57 m_130 (by decide +kernel) ⟨by decide, by decide⟩) hX hA hP hD hS [0, 1, 2, 3, 4, 5, 6, 7] [] rfl rfl (by decide) (by decide) (by decide) (va_recv hX.1 hP (ci := 1) (q0 := 0) rfl rfl) rfl hl.1 rfl (Nat.le_of_ble_eq_true rfl) d_Reader_readName_30 ⟨Nat.zero_le _, Nat.zero_le _⟩ (fun H locs hP hD hS => ?_)
          have hP : va_P D vwCl (rdW ad cd T s_12) H := hP
          have hD : va_D A (rdW ad cd T s_12) := hD
          refine lv_if_eq (tgt := 45) hx hb d_Reader_readName_33 (by decide) (fun c_33 => ?_) (fun c_33 => ?_)
          · skip
            have c_33 : (fWas T s_12) = false := bI_0 c_33
            refine lv_aload_n hx hb d_Reader_readName_45 rfl (lv_at hl 0 rfl) ?_
            refine va_get (D := D) (ci := 1) (v := .ref (ad 3)) (C := "HeadDesk$Reader") (T := F_Reader) (N := 11) hx hb hts a_Reader hown hX.1 hP 0 rfl rfl 1 (by decide) (hts _ m_72) (fun _ h9 => h9) rfl d_Reader_readName_46 ?_
            refine lv_aload_n hx hb d_Reader_readName_49 rfl (lv_at hl 0 rfl) ?_
            refine va_get (D := D) (ci := 1) (v := .int (rNm s_12)) (C := "HeadDesk$Reader") (T := F_Reader) (N := 11) hx hb hts a_Reader hown hX.1 hP 0 rfl rfl 4 (by decide) (hts _ m_71) (fun _ h9 => h9) rfl d_Reader_readName_50 ?_
            refine lv_aload_n hx hb d_Reader_readName_53 rfl (lv_at hl 0 rfl) ?_
            refine va_get (D := D) (ci := 1) (v := .int (rWs s_12)) (C := "HeadDesk$Reader") (T := F_Reader) (N := 11) hx hb hts a_Reader hown hX.1 hP 0 rfl rfl 9 (by decide) (hts _ m_66) (fun _ h9 => h9) rfl d_Reader_readName_54 ?_
            refine va_iast hx hb hX.1 hP hD hS 3 1 rfl rfl (hixN (by rw [e_12, nm_take, e_3, nm_let]; exact hN) c_26) d_Reader_readName_57 (fun H locs hP hD hS => ?_)
            have hP : va_P D vwCl (rdW ad cd T (sNs s_12 (upd (rNs s_12) (rNm s_12).toNatClampNeg (rWs s_12)))) H := hP
            have hD : va_D A (rdW ad cd T (sNs s_12 (upd (rNs s_12) (rNm s_12).toNatClampNeg (rWs s_12)))) := hD
            refine lv_aload_n hx hb d_Reader_readName_58 rfl (lv_at hl 0 rfl) ?_
            refine va_get (D := D) (ci := 1) (v := .ref (ad 4)) (C := "HeadDesk$Reader") (T := F_Reader) (N := 11) hx hb hts a_Reader hown hX.1 hP 0 rfl rfl 2 (by decide) (hts _ m_73) (fun _ h9 => h9) rfl d_Reader_readName_59 ?_
            refine lv_aload_n hx hb d_Reader_readName_62 rfl (lv_at hl 0 rfl) ?_
            refine va_get (D := D) (ci := 1) (v := .int (rNm s_12)) (C := "HeadDesk$Reader") (T := F_Reader) (N := 11) hx hb hts a_Reader hown hX.1 hP 0 rfl rfl 4 (by decide) (hts _ m_71) (fun _ h9 => h9) rfl d_Reader_readName_63 ?_
            refine lv_aload_n hx hb d_Reader_readName_66 rfl (lv_at hl 0 rfl) ?_
            refine va_get (D := D) (ci := 1) (v := .int (rWe s_12)) (C := "HeadDesk$Reader") (T := F_Reader) (N := 11) hx hb hts a_Reader hown hX.1 hP 0 rfl rfl 10 (by decide) (hts _ m_67) (fun _ h9 => h9) rfl d_Reader_readName_67 ?_
            refine va_iast hx hb hX.1 hP hD hS 4 2 rfl rfl (hixN (by rw [e_12, nm_take, e_3, nm_let]; exact hN) c_26) d_Reader_readName_70 (fun H locs hP hD hS => ?_)
            have hP : va_P D vwCl (rdW ad cd T (sNe (sNs s_12 (upd (rNs s_12) (rNm s_12).toNatClampNeg (rWs s_12))) (upd (rNe s_12) (rNm s_12).toNatClampNeg (rWe s_12)))) H := hP
            have hD : va_D A (rdW ad cd T (sNe (sNs s_12 (upd (rNs s_12) (rNm s_12).toNatClampNeg (rWs s_12))) (upd (rNe s_12) (rNm s_12).toNatClampNeg (rWe s_12)))) := hD
            refine lv_aload_n hx hb d_Reader_readName_71 rfl (lv_at hl 0 rfl) ?_
            refine lv_dup hx hb d_Reader_readName_72 rfl ?_
            refine va_get (D := D) (ci := 1) (v := .int (rNm s_12)) (C := "HeadDesk$Reader") (T := F_Reader) (N := 11) hx hb hts a_Reader hown hX.1 hP 0 rfl rfl 4 (by decide) (hts _ m_71) (fun _ h9 => h9) rfl d_Reader_readName_73 ?_
            refine lv_iconst (v := 1) hx hb d_Reader_readName_76 (by decide) ?_
            refine lv_iadd hx hb d_Reader_readName_77 ?_
            refine va_put (D := D) (ci := 1) (v := .int ((rNm s_12) + 1)) (ty := .int) (C := "HeadDesk$Reader") (T := F_Reader) (N := 11) hx hb hts a_Reader t_Reader k_Reader n_Reader hown hX.1 hP hD hS 0 rfl rfl 4 (by decide) (hts _ m_71) (fun _ h9 => h9) rfl (by decide +kernel) rfl rfl (Nat.le_of_ble_eq_true rfl) d_Reader_readName_78 (fun H locs hP hD hS => ?_)
            have hP : va_P D vwCl (rdW ad cd T (sNm (sNe (sNs s_12 (upd (rNs s_12) (rNm s_12).toNatClampNeg (rWs s_12))) (upd (rNe s_12) (rNm s_12).toNatClampNeg (rWe s_12))) ((rNm s_12) + 1))) H := hP
            have hD : va_D A (rdW ad cd T (sNm (sNe (sNs s_12 (upd (rNs s_12) (rNm s_12).toNatClampNeg (rWs s_12))) (upd (rNe s_12) (rNm s_12).toNatClampNeg (rWe s_12))) ((rNm s_12) + 1))) := hD
            refine lv_iconst (v := 1) hx hb d_Reader_readName_81 (by decide) ?_
            exact hret H locs (sNm (sNe (sNs s_12 (upd (rNs s_12) (rNm s_12).toNatClampNeg (rWs s_12))) (upd (rNe s_12) (rNm s_12).toNatClampNeg (rWe s_12))) ((rNm s_12) + 1)) true _ _ hP hD hS (pr2 (by first | (simp only [fNam, fNamE, c_6, c_15, if_neg c_26, c_33, bnd_t c_6, bnd_t c_15, ← e_3, ← e_12, fStop, if_true, if_false, Bool.false_eq_true, ↓reduceIte]; done) | (simp only [fNam, fNamE, c_6, c_15, if_neg c_26, c_33, bnd_t c_6, bnd_t c_15, ← e_3, ← e_12, fStop, if_true, if_false, Bool.false_eq_true, ↓reduceIte]; with_reducible rfl) | (simp only [fNam, fNamE, c_6, c_15, if_neg c_26, c_33, bnd_t c_6, bnd_t c_15, ← e_3, ← e_12, fStop, if_true, if_false, Bool.false_eq_true, ↓reduceIte]; rw [e_12]))) d_Reader_readName_82
          · skip
            have c_33 : (fWas T s_12) = true := bI_1 c_33
            refine lv_aload_n hx hb d_Reader_readName_36 rfl (lv_at hl 0 rfl) ?_
            refine lv_aload_n hx hb d_Reader_readName_37 rfl (lv_at hl 0 rfl) ?_
            refine va_get (D := D) (ci := 1) (v := .int (rWs s_12)) (C := "HeadDesk$Reader") (T := F_Reader) (N := 11) hx hb hts a_Reader hown hX.1 hP 0 rfl rfl 9 (by decide) (hts _ m_66) (fun _ h9 => h9) rfl d_Reader_readName_38 ?_
            refine hx_Vz (wr := []) (As := [.int (rWs s_12)]) (rest := []) hI (c_Reader_stop hT s_12 (rWs s_12)) (cw_V (C := "HeadDesk$Reader") 1 hts m_58 m_60 m_61 m_57 m_59 (by decide +kernel) ⟨by decide, by decide⟩) hX hA hP hD hS [0, 1, 2, 3, 4, 5, 6, 7] [] rfl rfl (by decide) (by decide) (by decide) (va_recv hX.1 hP (ci := 1) (q0 := 0) rfl rfl) rfl hl.1 rfl (Nat.le_of_ble_eq_true rfl) d_Reader_readName_41 ⟨Nat.zero_le _, Nat.zero_le _⟩ (fun H locs hP hD hS => ?_)
            obtain ⟨s_41, e_41⟩ : ∃ z : RS, z = sSk s_12 (rWs s_12) := ⟨_, rfl⟩
            have hP : va_P D vwCl (rdW ad cd T s_41) H := by rw [e_41]; exact hP
            have hD : va_D A (rdW ad cd T s_41) := by rw [e_41]; exact hD
            exact hret H locs s_41 false _ _ hP hD hS (pr2 (by first | (simp only [fNam, fNamE, c_6, c_15, if_neg c_26, c_33, bnd_t c_6, bnd_t c_15, ← e_3, ← e_12, ← e_41, fStop, if_true, if_false, Bool.false_eq_true, ↓reduceIte]; done) | (simp only [fNam, fNamE, c_6, c_15, if_neg c_26, c_33, bnd_t c_6, bnd_t c_15, ← e_3, ← e_12, ← e_41, fStop, if_true, if_false, Bool.false_eq_true, ↓reduceIte]; with_reducible rfl) | (simp only [fNam, fNamE, c_6, c_15, if_neg c_26, c_33, bnd_t c_6, bnd_t c_15, ← e_3, ← e_12, ← e_41, fStop, if_true, if_false, Bool.false_eq_true, ↓reduceIte]; rw [e_41]))) d_Reader_readName_44
      · skip
        have c_15 : ((fTake T s_3 58).1) = false := bI_0 c_15
        refine lv_iconst (v := 0) hx hb d_Reader_readName_18 (by decide) ?_
        exact hret H locs s_12 false _ _ hP hD hS (pr2 (by first | (simp only [fNam, fNamE, c_6, c_15, bnd_t c_6, bnd_f c_15, ← e_3, ← e_12, fStop, if_true, if_false, Bool.false_eq_true, ↓reduceIte]; done) | (simp only [fNam, fNamE, c_6, c_15, bnd_t c_6, bnd_f c_15, ← e_3, ← e_12, fStop, if_true, if_false, Bool.false_eq_true, ↓reduceIte]; with_reducible rfl) | (simp only [fNam, fNamE, c_6, c_15, bnd_t c_6, bnd_f c_15, ← e_3, ← e_12, fStop, if_true, if_false, Bool.false_eq_true, ↓reduceIte]; rw [e_12]))) d_Reader_readName_19
  rw [hH, hlo] at goal
  exact goal
set_option maxHeartbeats 4000000 in
set_option maxRecDepth 100000 in
theorem c_Reader_readVersions (hT : T.2 ≤ 300) (st : RS)  : hx_Mz l D (tyH cd) adK adV tF (rdW ad cd T) y_Reader_readVersions w_Reader_readVersions (rmD 4) [.ref (ad 0)] st ((fVer T st).1) ((fVer T st).2) := by
  refine hx_Mz.of (cc := b_Reader_readVersions) (maxL := 2) (by decide) rfl (Nat.le_of_ble_eq_true rfl) ?_
  intro p e s m below meth c A Q ls hI hX hA hP hD hS hl hret
  obtain ⟨hx, hb, hml, hown, hts⟩ := id hI
  have hts : ∀ w ∈ aw, w.before ([.ref (ad 0)] : List Value).toArray s = true := fun w h => hts w (List.mem_cons_of_mem _ h)
  have hown : s.vm.findClass "HeadDesk$Reader" = some m.cls := hown
  have hI : hx_In p s m ([.ref (ad 0)] : List Value).toArray c b_Reader_readVersions 2 "HeadDesk$Reader" aw := ⟨hx, hb, hml, hown, hts⟩
  have hP : va_P D vwCl (rdW ad cd T st) s.heap := hP
  obtain ⟨H, hH⟩ : ∃ H, H = s.heap := ⟨_, rfl⟩
  obtain ⟨locs, hlo⟩ : ∃ locs : List Loc, locs = [] := ⟨_, rfl⟩
  have hS : va_S A s.heap H locs := by rw [hH, hlo]; exact hS
  have hP : va_P D vwCl (rdW ad cd T st) H := by rw [hH]; exact hP
  have hl : lv_has ls 2 [(0, .ref (ad 0))] := hl
  have goal : W p l e (rmD 4) s m ([.ref (ad 0)] : List Value).toArray below meth c H locs 0 0 Q (F0 m 0 ls []) := by
    refine lv_aload_n hx hb d_Reader_readVersions_0 rfl (lv_at hl 0 rfl) ?_
    refine lv_bipush (v := 42) hx hb d_Reader_readVersions_1 (by decide) ?_
    refine hx_Vz (wr := []) (As := [.int 42]) (rest := []) hI (c_Reader_skip hT st 42) (cw_V (C := "HeadDesk$Reader") 1 hts m_100 m_102 m_103 m_57 m_101 (by decide +kernel) ⟨by decide, by decide⟩) hX hA hP hD hS [0, 1, 2, 3, 4, 5, 6, 7] [] rfl rfl (by decide) (by decide) (by decide) (va_recv hX.1 hP (ci := 1) (q0 := 0) rfl rfl) rfl hl.1 rfl (Nat.le_of_ble_eq_true rfl) d_Reader_readVersions_3 ⟨Nat.zero_le _, Nat.zero_le _⟩ (fun H locs hP hD hS => ?_)
    obtain ⟨s_3, e_3⟩ : ∃ z : RS, z = (fSkip T st 42).2 := ⟨_, rfl⟩
    have hP : va_P D vwCl (rdW ad cd T s_3) H := by rw [e_3]; exact hP
    have hD : va_D A (rdW ad cd T s_3) := by rw [e_3]; exact hD
    refine lv_if_eq (tgt := 21) hx hb d_Reader_readVersions_6 (by decide) (fun c_6 => ?_) (fun c_6 => ?_)
    · skip
      have c_6 : ((fSkip T st 42).1) = false := bI_0 c_6
      refine lv_iconst (v := 1) hx hb d_Reader_readVersions_21 (by decide) ?_
      refine lv_istore_n (lv' := [(1, .int 1), (0, .ref (ad 0))]) hx hb d_Reader_readVersions_22 rfl hl (by decide) rfl (fun ls hl => ?_)
      have loop23 : ∀ (k : Nat) (j : Nat) (s1 : RS) (H : Heap) (locs : List Loc) (ls : Array Slot), j + k = 9 → fVer T st = fVerL T k s1 → va_P D vwCl (rdW ad cd T s1) H → va_D A (rdW ad cd T s1) → va_S A s.heap H locs → lv_has ls 2 [(1, .int (nI j)), (0, .ref (ad 0))] → W p l e (rmD 4) s m ([.ref (ad 0)] : List Value).toArray below meth c H locs 0 0 Q (F0 m 23 ls []) := by
        intro k
        induction k with
        | zero =>
          intro j s1 H locs ls hj hF hP hD hS hl
          refine lv_iload_n hx hb d_Reader_readVersions_23 rfl (lv_at hl 0 rfl) ?_
          refine lv_bipush (v := 8) hx hb d_Reader_readVersions_24 (by decide) ?_
          refine lv_icmp_gt (tgt := 103) hx hb d_Reader_readVersions_26 (by decide) (fun c_26 => ?_) (fun c_26 => ?_)
          · skip
            have c_26 : (8 < nI j) := c_26
            refine lv_iconst (v := 1) hx hb d_Reader_readVersions_103 (by decide) ?_
            exact hret H locs s1 true _ _ hP hD hS (pr2 (by first | (rw [hF]; ((try simp only [fVerL]) <;> simp only [fVerL, if_pos c_26, fStop, if_true, if_false, Bool.false_eq_true, ↓reduceIte]); done) | (rw [hF]; ((try simp only [fVerL]) <;> simp only [fVerL, if_pos c_26, fStop, if_true, if_false, Bool.false_eq_true, ↓reduceIte]); with_reducible rfl))) d_Reader_readVersions_104
          · skip
            exact absurd (nI_tyes (N := 8) rfl (by omega) (by omega)) c_26
        | succ k ih =>
          intro j s1 H locs ls hj hF hP hD hS hl
          refine lv_iload_n hx hb d_Reader_readVersions_23 rfl (lv_at hl 0 rfl) ?_
          refine lv_bipush (v := 8) hx hb d_Reader_readVersions_24 (by decide) ?_
          refine lv_icmp_gt (tgt := 103) hx hb d_Reader_readVersions_26 (by decide) (fun c_26 => ?_) (fun c_26 => ?_)
          · skip
            exact absurd c_26 (nI_tno (N := 8) rfl (by omega) (by omega))
          · skip
            have c_26 : ¬ (8 < nI j) := c_26
            refine lv_aload_n hx hb d_Reader_readVersions_29 rfl (lv_at hl 1 rfl) ?_
            refine lv_bipush (v := 34) hx hb d_Reader_readVersions_30 (by decide) ?_
            refine hx_Vz (wr := []) (As := [.int 34]) (rest := []) hI (c_Reader_take hT s1 34) (cw_V (C := "HeadDesk$Reader") 1 hts m_112 m_114 m_115 m_57 m_113 (by decide +kernel) ⟨by decide, by decide⟩) hX hA hP hD hS [0, 1, 2, 3, 4, 5, 6, 7] [] rfl rfl (by decide) (by decide) (by decide) (va_recv hX.1 hP (ci := 1) (q0 := 0) rfl rfl) rfl hl.1 rfl (Nat.le_of_ble_eq_true rfl) d_Reader_readVersions_32 ⟨Nat.zero_le _, Nat.zero_le _⟩ (fun H locs hP hD hS => ?_)
            obtain ⟨s_32, e_32⟩ : ∃ z : RS, z = (fTake T s1 34).2 := ⟨_, rfl⟩
            have hP : va_P D vwCl (rdW ad cd T s_32) H := by rw [e_32]; exact hP
            have hD : va_D A (rdW ad cd T s_32) := by rw [e_32]; exact hD
            refine lv_if_eq (tgt := 56) hx hb d_Reader_readVersions_35 (by decide) (fun c_35 => ?_) (fun c_35 => ?_)
            · skip
              have c_35 : ((fTake T s1 34).1) = false := bI_0 c_35
              refine lv_iconst (v := 0) hx hb d_Reader_readVersions_56 (by decide) ?_
              exact hret H locs s_32 false _ _ hP hD hS (pr2 (by first | (rw [hF]; ((try simp only [fVerL]) <;> simp only [fVerL, if_neg c_26, c_35, bnd_f c_35, ← e_32, fStop, if_true, if_false, Bool.false_eq_true, ↓reduceIte]); done) | (rw [hF]; ((try simp only [fVerL]) <;> simp only [fVerL, if_neg c_26, c_35, bnd_f c_35, ← e_32, fStop, if_true, if_false, Bool.false_eq_true, ↓reduceIte]); with_reducible rfl) | (rw [hF]; ((try simp only [fVerL]) <;> simp only [fVerL, if_neg c_26, c_35, bnd_f c_35, ← e_32, fStop, if_true, if_false, Bool.false_eq_true, ↓reduceIte]); rw [e_32]))) d_Reader_readVersions_57
            · skip
              have c_35 : ((fTake T s1 34).1) = true := bI_1 c_35
              refine lv_aload_n hx hb d_Reader_readVersions_38 rfl (lv_at hl 1 rfl) ?_
              refine lv_ldc (v := 99999) hx hb hown (hts _ m_120) d_Reader_readVersions_39 ?_
              refine hx_Vz (wr := []) (As := [.int 99999]) (rest := []) hI (c_Reader_takeNumber hT s_32 99999) (cw_V (C := "HeadDesk$Reader") 1 hts m_96 m_98 m_99 m_57 m_97 (by decide +kernel) ⟨by decide, by decide⟩) hX hA hP hD hS [0, 1, 2, 3, 4, 5, 6, 7] [] rfl rfl (by decide) (by decide) (by decide) (va_recv hX.1 hP (ci := 1) (q0 := 0) rfl rfl) rfl hl.1 rfl (Nat.le_of_ble_eq_true rfl) d_Reader_readVersions_41 ⟨Nat.zero_le _, Nat.zero_le _⟩ (fun H locs hP hD hS => ?_)
              obtain ⟨s_41, e_41⟩ : ∃ z : RS, z = (fNum T s_32 99999).2 := ⟨_, rfl⟩
              have hP : va_P D vwCl (rdW ad cd T s_41) H := by rw [e_41]; exact hP
              have hD : va_D A (rdW ad cd T s_41) := by rw [e_41]; exact hD
              refine lv_if_eq (tgt := 56) hx hb d_Reader_readVersions_44 (by decide) (fun c_44 => ?_) (fun c_44 => ?_)
              · skip
                have c_44 : ((fNum T s_32 99999).1) = false := bI_0 c_44
                refine lv_iconst (v := 0) hx hb d_Reader_readVersions_56 (by decide) ?_
                exact hret H locs s_41 false _ _ hP hD hS (pr2 (by first | (rw [hF]; ((try simp only [fVerL]) <;> simp only [fVerL, if_neg c_26, c_35, c_44, bnd_t c_35, bnd_f c_44, ← e_32, ← e_41, fStop, if_true, if_false, Bool.false_eq_true, ↓reduceIte]); done) | (rw [hF]; ((try simp only [fVerL]) <;> simp only [fVerL, if_neg c_26, c_35, c_44, bnd_t c_35, bnd_f c_44, ← e_32, ← e_41, fStop, if_true, if_false, Bool.false_eq_true, ↓reduceIte]); with_reducible rfl) | (rw [hF]; ((try simp only [fVerL]) <;> simp only [fVerL, if_neg c_26, c_35, c_44, bnd_t c_35, bnd_f c_44, ← e_32, ← e_41, fStop, if_true, if_false, Bool.false_eq_true, ↓reduceIte]); rw [e_41]))) d_Reader_readVersions_57
              · skip
                have c_44 : ((fNum T s_32 99999).1) = true := bI_1 c_44
                refine lv_aload_n hx hb d_Reader_readVersions_47 rfl (lv_at hl 1 rfl) ?_
                refine lv_bipush (v := 34) hx hb d_Reader_readVersions_48 (by decide) ?_
                refine hx_Vz (wr := []) (As := [.int 34]) (rest := []) hI (c_Reader_take hT s_41 34) (cw_V (C := "HeadDesk$Reader") 1 hts m_112 m_114 m_115 m_57 m_113 (by decide +kernel) ⟨by decide, by decide⟩) hX hA hP hD hS [0, 1, 2, 3, 4, 5, 6, 7] [] rfl rfl (by decide) (by decide) (by decide) (va_recv hX.1 hP (ci := 1) (q0 := 0) rfl rfl) rfl hl.1 rfl (Nat.le_of_ble_eq_true rfl) d_Reader_readVersions_50 ⟨Nat.zero_le _, Nat.zero_le _⟩ (fun H locs hP hD hS => ?_)
                obtain ⟨s_50, e_50⟩ : ∃ z : RS, z = (fTake T s_41 34).2 := ⟨_, rfl⟩
                have hP : va_P D vwCl (rdW ad cd T s_50) H := by rw [e_50]; exact hP
                have hD : va_D A (rdW ad cd T s_50) := by rw [e_50]; exact hD
                refine lv_if_ne (tgt := 58) hx hb d_Reader_readVersions_53 (by decide) (fun c_53 => ?_) (fun c_53 => ?_)
                · skip
                  have c_53 : ((fTake T s_41 34).1) = true := bI_1 c_53
                  refine lv_aload_n hx hb d_Reader_readVersions_58 rfl (lv_at hl 1 rfl) ?_
                  refine va_get (D := D) (ci := 1) (v := .ref (ad 5)) (C := "HeadDesk$Reader") (T := F_Reader) (N := 11) hx hb hts a_Reader hown hX.1 hP 0 rfl rfl 3 (by decide) (hts _ m_91) (fun _ h9 => h9) rfl d_Reader_readVersions_59 ?_
                  refine lv_aload_n hx hb d_Reader_readVersions_62 rfl (lv_at hl 1 rfl) ?_
                  refine va_get (D := D) (ci := 1) (v := .int (rNb s_50)) (C := "HeadDesk$Reader") (T := F_Reader) (N := 11) hx hb hts a_Reader hown hX.1 hP 0 rfl rfl 8 (by decide) (hts _ m_62) (fun _ h9 => h9) rfl d_Reader_readVersions_63 ?_
                  refine hx_Vv (wr := [(ad 0, .inr (1, [.ref (ad 1), .ref (ad 3), .ref (ad 4), .ref (ad 5), .int (rNm s_50), .int (rKd s_50), .int (rPl s_50), .int (rSk s_50), .int (rNb s_50), .int (rWs s_50), .int (rWe s_50)])), (ad 1, .inr (2, [.ref (ad 2), .int (T.2)])), (ad 2, .inl (cd 0, 300, .inl T.1)), (ad 3, .inl (cd 1, 100, .inl (rNs s_50))), (ad 4, .inl (cd 2, 100, .inl (rNe s_50)))]) (As := [.int (rNb s_50)]) (rest := []) hI (c_Head_addVersion (ah := ad 5) (av := ad 6) (ar := ad 7) (cv := cd 3) (cr := cd 4) (tv := 3) (tr := 4) rfl rfl (rVs s_50, rVr s_50) (rNb s_50)) (cw_V (C := "HeadDesk$Head") 1 hts m_133 m_135 m_136 m_40 m_134 (by decide +kernel) ⟨by decide, by decide⟩) hX hA hP hD hS [5, 6, 7] [0, 1, 2, 3, 4] rfl rfl (by decide) (by decide) (by decide) (va_recv hX.1 hP (ci := 0) (q0 := 5) rfl rfl) rfl hl.1 rfl (Nat.le_of_ble_eq_true rfl) d_Reader_readVersions_66 ⟨Nat.zero_le _, Nat.zero_le _⟩ (fun H locs hP hD hS => ?_)
                  obtain ⟨s_66, e_66⟩ : ∃ z : RS, z = sVr (sVs s_50 ((hAdd (rVs s_50) (rVr s_50) (rNb s_50)).1)) ((hAdd (rVs s_50) (rVr s_50) (rNb s_50)).2) := ⟨_, rfl⟩
                  have hP : va_P D vwCl (rdW ad cd T s_66) H := by rw [e_66]; exact hP.sub [0, 1, 2, 3, 4, 5, 6, 7] rfl
                  have hD : va_D A (rdW ad cd T s_66) := by rw [e_66]; exact hD.sub [0, 1, 2, 3, 4, 5, 6, 7] (by decide) rfl
                  refine lv_iload_n hx hb d_Reader_readVersions_69 rfl (lv_at hl 0 rfl) ?_
                  refine lv_bipush (v := 8) hx hb d_Reader_readVersions_70 (by decide) ?_
                  refine lv_icmp_eq (tgt := 84) hx hb d_Reader_readVersions_72 (by decide) (fun c_72 => ?_) (fun c_72 => ?_)
                  · skip
                    have c_72 : k = 0 := nI_k0 (N := 8) rfl (by omega) (by omega) c_72
                    refine lv_iconst (v := 1) hx hb d_Reader_readVersions_84 (by decide) ?_
                    exact hret H locs s_66 true _ _ hP hD hS (pr2 (by first | (rw [hF]; ((try simp only [fVerL]) <;> simp only [fVerL, if_neg c_26, c_35, c_44, c_53, if_pos c_72, bnd_t c_35, bnd_t c_44, bnd_t c_53, ← e_32, ← e_41, ← e_50, ← e_66, fStop, if_true, if_false, Bool.false_eq_true, ↓reduceIte]); done) | (rw [hF]; ((try simp only [fVerL]) <;> simp only [fVerL, if_neg c_26, c_35, c_44, c_53, if_pos c_72, bnd_t c_35, bnd_t c_44, bnd_t c_53, ← e_32, ← e_41, ← e_50, ← e_66, fStop, if_true, if_false, Bool.false_eq_true, ↓reduceIte]); with_reducible rfl) | (rw [hF]; ((try simp only [fVerL]) <;> simp only [fVerL, if_neg c_26, c_35, c_44, c_53, if_pos c_72, bnd_t c_35, bnd_t c_44, bnd_t c_53, ← e_32, ← e_41, ← e_50, ← e_66, fStop, if_true, if_false, Bool.false_eq_true, ↓reduceIte]); rw [e_66]))) d_Reader_readVersions_85
                  · skip
                    have c_72 : ¬ k = 0 := fun h => c_72 (nI_k1 (N := 8) rfl (by omega))
                    refine lv_aload_n hx hb d_Reader_readVersions_75 rfl (lv_at hl 1 rfl) ?_
                    refine lv_bipush (v := 44) hx hb d_Reader_readVersions_76 (by decide) ?_
                    refine hx_Vz (wr := []) (As := [.int 44]) (rest := []) hI (c_Reader_skip hT s_66 44) (cw_V (C := "HeadDesk$Reader") 1 hts m_100 m_102 m_103 m_57 m_101 (by decide +kernel) ⟨by decide, by decide⟩) hX hA hP hD hS [0, 1, 2, 3, 4, 5, 6, 7] [] rfl rfl (by decide) (by decide) (by decide) (va_recv hX.1 hP (ci := 1) (q0 := 0) rfl rfl) rfl hl.1 rfl (Nat.le_of_ble_eq_true rfl) d_Reader_readVersions_78 ⟨Nat.zero_le _, Nat.zero_le _⟩ (fun H locs hP hD hS => ?_)
                    obtain ⟨s_78, e_78⟩ : ∃ z : RS, z = (fSkip T s_66 44).2 := ⟨_, rfl⟩
                    have hP : va_P D vwCl (rdW ad cd T s_78) H := by rw [e_78]; exact hP
                    have hD : va_D A (rdW ad cd T s_78) := by rw [e_78]; exact hD
                    refine lv_if_ne (tgt := 86) hx hb d_Reader_readVersions_81 (by decide) (fun c_81 => ?_) (fun c_81 => ?_)
                    · skip
                      have c_81 : ((fSkip T s_66 44).1) = true := bI_1 c_81
                      refine lv_aload_n hx hb d_Reader_readVersions_86 rfl (lv_at hl 1 rfl) ?_
                      refine lv_bipush (v := 32) hx hb d_Reader_readVersions_87 (by decide) ?_
                      refine hx_Vz (wr := []) (As := [.int 32]) (rest := []) hI (c_Reader_take hT s_78 32) (cw_V (C := "HeadDesk$Reader") 1 hts m_112 m_114 m_115 m_57 m_113 (by decide +kernel) ⟨by decide, by decide⟩) hX hA hP hD hS [0, 1, 2, 3, 4, 5, 6, 7] [] rfl rfl (by decide) (by decide) (by decide) (va_recv hX.1 hP (ci := 1) (q0 := 0) rfl rfl) rfl hl.1 rfl (Nat.le_of_ble_eq_true rfl) d_Reader_readVersions_89 ⟨Nat.zero_le _, Nat.zero_le _⟩ (fun H locs hP hD hS => ?_)
                      obtain ⟨s_89, e_89⟩ : ∃ z : RS, z = (fTake T s_78 32).2 := ⟨_, rfl⟩
                      have hP : va_P D vwCl (rdW ad cd T s_89) H := by rw [e_89]; exact hP
                      have hD : va_D A (rdW ad cd T s_89) := by rw [e_89]; exact hD
                      refine lv_if_ne (tgt := 97) hx hb d_Reader_readVersions_92 (by decide) (fun c_92 => ?_) (fun c_92 => ?_)
                      · skip
                        have c_92 : ((fTake T s_78 32).1) = true := bI_1 c_92
                        refine lv_iinc (v := nI (j + 1)) (lv' := [(1, .int (nI (j + 1))), (0, .ref (ad 0))]) hx hb d_Reader_readVersions_97 hl (k := 0) rfl (by rw [nI_succ]; rfl) (by decide) rfl (fun ls hl => ?_)
                        refine lv_goto (tgt := 23) hx hb d_Reader_readVersions_100 (by decide) ?_
                        exact ih (j + 1) s_89 H locs ls (by omega)  (by first | (rw [hF]; ((try simp only [fVerL]) <;> simp only [fVerL, if_neg c_26, c_35, c_44, c_53, if_neg c_72, c_81, c_92, bnd_t c_35, bnd_t c_44, bnd_t c_53, bnd_t c_81, bnd_t c_92, ← e_32, ← e_41, ← e_50, ← e_66, ← e_78, ← e_89, fStop, if_true, if_false, Bool.false_eq_true, ↓reduceIte]); done) | (rw [hF]; ((try simp only [fVerL]) <;> simp only [fVerL, if_neg c_26, c_35, c_44, c_53, if_neg c_72, c_81, c_92, bnd_t c_35, bnd_t c_44, bnd_t c_53, bnd_t c_81, bnd_t c_92, ← e_32, ← e_41, ← e_50, ← e_66, ← e_78, ← e_89, fStop, if_true, if_false, Bool.false_eq_true, ↓reduceIte]); with_reducible rfl) | (rw [hF]; ((try simp only [fVerL]) <;> simp only [fVerL, if_neg c_26, c_35, c_44, c_53, if_neg c_72, c_81, c_92, bnd_t c_35, bnd_t c_44, bnd_t c_53, bnd_t c_81, bnd_t c_92, ← e_32, ← e_41, ← e_50, ← e_66, ← e_78, ← e_89, fStop, if_true, if_false, Bool.false_eq_true, ↓reduceIte]); rw [e_89])) hP hD hS (lv_sub hl [0, 1] rfl)
                      · skip
                        have c_92 : ((fTake T s_78 32).1) = false := bI_0 c_92
                        refine lv_iconst (v := 0) hx hb d_Reader_readVersions_95 (by decide) ?_
                        exact hret H locs s_89 false _ _ hP hD hS (pr2 (by first | (rw [hF]; ((try simp only [fVerL]) <;> simp only [fVerL, if_neg c_26, c_35, c_44, c_53, if_neg c_72, c_81, c_92, bnd_t c_35, bnd_t c_44, bnd_t c_53, bnd_t c_81, bnd_f c_92, ← e_32, ← e_41, ← e_50, ← e_66, ← e_78, ← e_89, fStop, if_true, if_false, Bool.false_eq_true, ↓reduceIte]); done) | (rw [hF]; ((try simp only [fVerL]) <;> simp only [fVerL, if_neg c_26, c_35, c_44, c_53, if_neg c_72, c_81, c_92, bnd_t c_35, bnd_t c_44, bnd_t c_53, bnd_t c_81, bnd_f c_92, ← e_32, ← e_41, ← e_50, ← e_66, ← e_78, ← e_89, fStop, if_true, if_false, Bool.false_eq_true, ↓reduceIte]); with_reducible rfl) | (rw [hF]; ((try simp only [fVerL]) <;> simp only [fVerL, if_neg c_26, c_35, c_44, c_53, if_neg c_72, c_81, c_92, bnd_t c_35, bnd_t c_44, bnd_t c_53, bnd_t c_81, bnd_f c_92, ← e_32, ← e_41, ← e_50, ← e_66, ← e_78, ← e_89, fStop, if_true, if_false, Bool.false_eq_true, ↓reduceIte]); rw [e_89]))) d_Reader_readVersions_96
                    · skip
                      have c_81 : ((fSkip T s_66 44).1) = false := bI_0 c_81
                      refine lv_iconst (v := 1) hx hb d_Reader_readVersions_84 (by decide) ?_
                      exact hret H locs s_78 true _ _ hP hD hS (pr2 (by first | (rw [hF]; ((try simp only [fVerL]) <;> simp only [fVerL, if_neg c_26, c_35, c_44, c_53, if_neg c_72, c_81, bnd_t c_35, bnd_t c_44, bnd_t c_53, bnd_f c_81, ← e_32, ← e_41, ← e_50, ← e_66, ← e_78, fStop, if_true, if_false, Bool.false_eq_true, ↓reduceIte]); done) | (rw [hF]; ((try simp only [fVerL]) <;> simp only [fVerL, if_neg c_26, c_35, c_44, c_53, if_neg c_72, c_81, bnd_t c_35, bnd_t c_44, bnd_t c_53, bnd_f c_81, ← e_32, ← e_41, ← e_50, ← e_66, ← e_78, fStop, if_true, if_false, Bool.false_eq_true, ↓reduceIte]); with_reducible rfl) | (rw [hF]; ((try simp only [fVerL]) <;> simp only [fVerL, if_neg c_26, c_35, c_44, c_53, if_neg c_72, c_81, bnd_t c_35, bnd_t c_44, bnd_t c_53, bnd_f c_81, ← e_32, ← e_41, ← e_50, ← e_66, ← e_78, fStop, if_true, if_false, Bool.false_eq_true, ↓reduceIte]); rw [e_78]))) d_Reader_readVersions_85
                · skip
                  have c_53 : ((fTake T s_41 34).1) = false := bI_0 c_53
                  refine lv_iconst (v := 0) hx hb d_Reader_readVersions_56 (by decide) ?_
                  exact hret H locs s_50 false _ _ hP hD hS (pr2 (by first | (rw [hF]; ((try simp only [fVerL]) <;> simp only [fVerL, if_neg c_26, c_35, c_44, c_53, bnd_t c_35, bnd_t c_44, bnd_f c_53, ← e_32, ← e_41, ← e_50, fStop, if_true, if_false, Bool.false_eq_true, ↓reduceIte]); done) | (rw [hF]; ((try simp only [fVerL]) <;> simp only [fVerL, if_neg c_26, c_35, c_44, c_53, bnd_t c_35, bnd_t c_44, bnd_f c_53, ← e_32, ← e_41, ← e_50, fStop, if_true, if_false, Bool.false_eq_true, ↓reduceIte]); with_reducible rfl) | (rw [hF]; ((try simp only [fVerL]) <;> simp only [fVerL, if_neg c_26, c_35, c_44, c_53, bnd_t c_35, bnd_t c_44, bnd_f c_53, ← e_32, ← e_41, ← e_50, fStop, if_true, if_false, Bool.false_eq_true, ↓reduceIte]); rw [e_50]))) d_Reader_readVersions_57
      exact loop23 8 1 s_3 H locs ls (by omega) (by simp only [fVer, c_6, Bool.false_eq_true, ↓reduceIte, ← e_3]) hP hD hS (lv_sub hl [0, 1] rfl)
    · skip
      have c_6 : ((fSkip T st 42).1) = true := bI_1 c_6
      refine lv_aload_n hx hb d_Reader_readVersions_9 rfl (lv_at hl 0 rfl) ?_
      refine va_get (D := D) (ci := 1) (v := .ref (ad 5)) (C := "HeadDesk$Reader") (T := F_Reader) (N := 11) hx hb hts a_Reader hown hX.1 hP 0 rfl rfl 3 (by decide) (hts _ m_91) (fun _ h9 => h9) rfl d_Reader_readVersions_10 ?_
      refine lv_bipush (v := 6) hx hb d_Reader_readVersions_13 (by decide) ?_
      refine lv_iconst (v := 1) hx hb d_Reader_readVersions_15 (by decide) ?_
      refine hx_Vv (wr := [(ad 0, .inr (1, [.ref (ad 1), .ref (ad 3), .ref (ad 4), .ref (ad 5), .int (rNm s_3), .int (rKd s_3), .int (rPl s_3), .int (rSk s_3), .int (rNb s_3), .int (rWs s_3), .int (rWe s_3)])), (ad 1, .inr (2, [.ref (ad 2), .int (T.2)])), (ad 2, .inl (cd 0, 300, .inl T.1)), (ad 3, .inl (cd 1, 100, .inl (rNs s_3))), (ad 4, .inl (cd 2, 100, .inl (rNe s_3)))]) (As := [.int 6, .int 1]) (rest := []) hI (c_Head_set (ah := ad 5) (av := ad 6) (ar := ad 7) (cv := cd 3) (cr := cd 4) (tv := 3) (tr := 4) rfl rfl (rVs s_3, rVr s_3) 6 1) (cw_V (C := "HeadDesk$Head") 2 hts m_92 m_94 m_95 m_40 m_93 (by decide +kernel) ⟨by decide, by decide⟩) hX hA hP hD hS [5, 6, 7] [0, 1, 2, 3, 4] rfl rfl (by decide) (by decide) (by decide) (va_recv hX.1 hP (ci := 0) (q0 := 5) rfl rfl) rfl hl.1 rfl (Nat.le_of_ble_eq_true rfl) d_Reader_readVersions_16 ⟨Nat.zero_le _, Nat.zero_le _⟩ (fun H locs hP hD hS => ?_)
      obtain ⟨s_16, e_16⟩ : ∃ z : RS, z = sVs s_3 (hSet (rVs s_3) 6 1) := ⟨_, rfl⟩
      have hP : va_P D vwCl (rdW ad cd T s_16) H := by rw [e_16]; exact hP.sub [0, 1, 2, 3, 4, 5, 6, 7] rfl
      have hD : va_D A (rdW ad cd T s_16) := by rw [e_16]; exact hD.sub [0, 1, 2, 3, 4, 5, 6, 7] (by decide) rfl
      refine lv_iconst (v := 1) hx hb d_Reader_readVersions_19 (by decide) ?_
      exact hret H locs s_16 true _ _ hP hD hS (pr2 (by first | (simp only [fVer, c_6, bnd_t c_6, ← e_3, ← e_16, fStop, if_true, if_false, Bool.false_eq_true, ↓reduceIte]; done) | (simp only [fVer, c_6, bnd_t c_6, ← e_3, ← e_16, fStop, if_true, if_false, Bool.false_eq_true, ↓reduceIte]; with_reducible rfl) | (simp only [fVer, c_6, bnd_t c_6, ← e_3, ← e_16, fStop, if_true, if_false, Bool.false_eq_true, ↓reduceIte]; rw [e_16]))) d_Reader_readVersions_20
  rw [hH, hlo] at goal
  exact goal
end
section
variable {l : Launch} {D : va_G} {ad : Nat → Nat} {cd : Nat → ClassId} {adK adV : Nat → Nat} {tF : Nat} {T : TX} {tys : List (ClassId × FieldType)}

set_option maxHeartbeats 4000000 in
set_option maxRecDepth 100000 in
theorem c_Reader_readKeys (hT : T.2 ≤ 300) (st : RS)  : hx_Mz l D (tyH cd) adK adV tF (rdW ad cd T) y_Reader_readKeys w_Reader_readKeys (rmD 4) [.ref (ad 0)] st ((fKeyL T 8 st).1) ((fKeyL T 8 st).2) := by
  refine hx_Mz.of (cc := b_Reader_readKeys) (maxL := 3) (by decide) rfl (Nat.le_of_ble_eq_true rfl) ?_
  intro p e s m below meth c A Q ls hI hX hA hP hD hS hl hret
  obtain ⟨hx, hb, hml, hown, hts⟩ := id hI
  have hts : ∀ w ∈ aw, w.before ([.ref (ad 0)] : List Value).toArray s = true := fun w h => hts w (List.mem_cons_of_mem _ h)
  have hown : s.vm.findClass "HeadDesk$Reader" = some m.cls := hown
  have hI : hx_In p s m ([.ref (ad 0)] : List Value).toArray c b_Reader_readKeys 3 "HeadDesk$Reader" aw := ⟨hx, hb, hml, hown, hts⟩
  have hP : va_P D vwCl (rdW ad cd T st) s.heap := hP
  obtain ⟨H, hH⟩ : ∃ H, H = s.heap := ⟨_, rfl⟩
  obtain ⟨locs, hlo⟩ : ∃ locs : List Loc, locs = [] := ⟨_, rfl⟩
  have hS : va_S A s.heap H locs := by rw [hH, hlo]; exact hS
  have hP : va_P D vwCl (rdW ad cd T st) H := by rw [hH]; exact hP
  have hl : lv_has ls 3 [(0, .ref (ad 0))] := hl
  have goal : W p l e (rmD 4) s m ([.ref (ad 0)] : List Value).toArray below meth c H locs 0 0 Q (F0 m 0 ls []) := by
    refine lv_iconst (v := 1) hx hb d_Reader_readKeys_0 (by decide) ?_
    refine lv_istore_n (lv' := [(1, .int 1), (0, .ref (ad 0))]) hx hb d_Reader_readKeys_1 rfl hl (by decide) rfl (fun ls hl => ?_)
    have loop2 : ∀ (k : Nat) (j : Nat) (s1 : RS) (H : Heap) (locs : List Loc) (ls : Array Slot), j + k = 9 → fKeyL T 8 st = fKeyL T k s1 → va_P D vwCl (rdW ad cd T s1) H → va_D A (rdW ad cd T s1) → va_S A s.heap H locs → lv_has ls 3 [(1, .int (nI j)), (0, .ref (ad 0))] → W p l e (rmD 4) s m ([.ref (ad 0)] : List Value).toArray below meth c H locs 0 0 Q (F0 m 2 ls []) := by
      intro k
      induction k with
      | zero =>
        intro j s1 H locs ls hj hF hP hD hS hl
        refine lv_iload_n hx hb d_Reader_readKeys_2 rfl (lv_at hl 0 rfl) ?_
        refine lv_bipush (v := 8) hx hb d_Reader_readKeys_3 (by decide) ?_
        refine lv_icmp_gt (tgt := 75) hx hb d_Reader_readKeys_5 (by decide) (fun c_5 => ?_) (fun c_5 => ?_)
        · skip
          have c_5 : (8 < nI j) := c_5
          refine lv_iconst (v := 1) hx hb d_Reader_readKeys_75 (by decide) ?_
          exact hret H locs s1 true _ _ hP hD hS (pr2 (by first | (rw [hF]; ((try simp only [fKeyL]) <;> simp only [fKeyL, keyS, nxt, if_pos c_5, fStop, if_true, if_false, Bool.false_eq_true, ↓reduceIte]); done) | (rw [hF]; ((try simp only [fKeyL]) <;> simp only [fKeyL, keyS, nxt, if_pos c_5, fStop, if_true, if_false, Bool.false_eq_true, ↓reduceIte]); with_reducible rfl))) d_Reader_readKeys_76
        · skip
          exact absurd (nI_tyes (N := 8) rfl (by omega) (by omega)) c_5
      | succ k ih =>
        intro j s1 H locs ls hj hF hP hD hS hl
        refine lv_iload_n hx hb d_Reader_readKeys_2 rfl (lv_at hl 0 rfl) ?_
        refine lv_bipush (v := 8) hx hb d_Reader_readKeys_3 (by decide) ?_
        refine lv_icmp_gt (tgt := 75) hx hb d_Reader_readKeys_5 (by decide) (fun c_5 => ?_) (fun c_5 => ?_)
        · skip
          exact absurd c_5 (nI_tno (N := 8) rfl (by omega) (by omega))
        · skip
          have c_5 : ¬ (8 < nI j) := c_5
          refine lv_aload_n hx hb d_Reader_readKeys_8 rfl (lv_at hl 1 rfl) ?_
          refine hx_Vi (wr := []) (As := []) (rest := []) hI (c_Reader_mark hT s1 ) (cw_V (C := "HeadDesk$Reader") 0 hts m_53 m_55 m_56 m_57 m_54 (by decide +kernel) ⟨by decide, by decide⟩) hX hA hP hD hS [0, 1, 2, 3, 4, 5, 6, 7] [] rfl rfl (by decide) (by decide) (by decide) (va_recv hX.1 hP (ci := 1) (q0 := 0) rfl rfl) rfl hl.1 rfl (Nat.le_of_ble_eq_true rfl) d_Reader_readKeys_9 ⟨Nat.zero_le _, Nat.zero_le _⟩ (fun H locs hP hD hS => ?_)
          have hP : va_P D vwCl (rdW ad cd T s1) H := hP
          have hD : va_D A (rdW ad cd T s1) := hD
          refine lv_istore_n (lv' := [(2, .int (fMark T s1)), (1, .int (nI j)), (0, .ref (ad 0))]) hx hb d_Reader_readKeys_12 rfl hl (by decide) rfl (fun ls hl => ?_)
          refine lv_iload_n hx hb d_Reader_readKeys_13 rfl (lv_at hl 0 rfl) ?_
          refine lv_bipush (v := 97) hx hb d_Reader_readKeys_14 (by decide) ?_
          refine lv_icmp_lt (tgt := 25) hx hb d_Reader_readKeys_16 (by decide) (fun c_16 => ?_) (fun c_16 => ?_)
          · skip
            have c_16 : (fMark T s1 < 97) := c_16
            refine lv_aload_n hx hb d_Reader_readKeys_25 rfl (lv_at hl 2 rfl) ?_
            refine lv_aload_n hx hb d_Reader_readKeys_26 rfl (lv_at hl 2 rfl) ?_
            refine va_get (D := D) (ci := 1) (v := .int (rPl s1)) (C := "HeadDesk$Reader") (T := F_Reader) (N := 11) hx hb hts a_Reader hown hX.1 hP 0 rfl rfl 6 (by decide) (hts _ m_47) (fun _ h9 => h9) rfl d_Reader_readKeys_27 ?_
            refine hx_Vz (wr := []) (As := [.int (rPl s1)]) (rest := []) hI (c_Reader_stop hT s1 (rPl s1)) (cw_V (C := "HeadDesk$Reader") 1 hts m_58 m_60 m_61 m_57 m_59 (by decide +kernel) ⟨by decide, by decide⟩) hX hA hP hD hS [0, 1, 2, 3, 4, 5, 6, 7] [] rfl rfl (by decide) (by decide) (by decide) (va_recv hX.1 hP (ci := 1) (q0 := 0) rfl rfl) rfl hl.1 rfl (Nat.le_of_ble_eq_true rfl) d_Reader_readKeys_30 ⟨Nat.zero_le _, Nat.zero_le _⟩ (fun H locs hP hD hS => ?_)
            obtain ⟨s_30, e_30⟩ : ∃ z : RS, z = sSk s1 (rPl s1) := ⟨_, rfl⟩
            have hP : va_P D vwCl (rdW ad cd T s_30) H := by rw [e_30]; exact hP
            have hD : va_D A (rdW ad cd T s_30) := by rw [e_30]; exact hD
            exact hret H locs s_30 false _ _ hP hD hS (pr2 (by first | (rw [hF]; ((try simp only [fKeyL]) <;> simp only [fKeyL, keyS, nxt, if_neg c_5, if_pos c_16, ← e_30, fStop, if_true, if_false, Bool.false_eq_true, ↓reduceIte]); done) | (rw [hF]; ((try simp only [fKeyL]) <;> simp only [fKeyL, keyS, nxt, if_neg c_5, if_pos c_16, ← e_30, fStop, if_true, if_false, Bool.false_eq_true, ↓reduceIte]); with_reducible rfl) | (rw [hF]; ((try simp only [fKeyL]) <;> simp only [fKeyL, keyS, nxt, if_neg c_5, if_pos c_16, ← e_30, fStop, if_true, if_false, Bool.false_eq_true, ↓reduceIte]); rw [e_30]))) d_Reader_readKeys_33
          · skip
            have c_16 : ¬ (fMark T s1 < 97) := c_16
            refine lv_iload_n hx hb d_Reader_readKeys_19 rfl (lv_at hl 0 rfl) ?_
            refine lv_bipush (v := 104) hx hb d_Reader_readKeys_20 (by decide) ?_
            refine lv_icmp_le (tgt := 34) hx hb d_Reader_readKeys_22 (by decide) (fun c_22 => ?_) (fun c_22 => ?_)
            · skip
              have c_22 : (fMark T s1 ≤ 104) := c_22
              refine lv_aload_n hx hb d_Reader_readKeys_34 rfl (lv_at hl 2 rfl) ?_
              refine va_get (D := D) (ci := 1) (v := .ref (ad 5)) (C := "HeadDesk$Reader") (T := F_Reader) (N := 11) hx hb hts a_Reader hown hX.1 hP 0 rfl rfl 3 (by decide) (hts _ m_91) (fun _ h9 => h9) rfl d_Reader_readKeys_35 ?_
              refine lv_iload_n hx hb d_Reader_readKeys_38 rfl (lv_at hl 0 rfl) ?_
              refine hx_Vv (wr := [(ad 0, .inr (1, [.ref (ad 1), .ref (ad 3), .ref (ad 4), .ref (ad 5), .int (rNm s1), .int (rKd s1), .int (rPl s1), .int (rSk s1), .int (rNb s1), .int (rWs s1), .int (rWe s1)])), (ad 1, .inr (2, [.ref (ad 2), .int (T.2)])), (ad 2, .inl (cd 0, 300, .inl T.1)), (ad 3, .inl (cd 1, 100, .inl (rNs s1))), (ad 4, .inl (cd 2, 100, .inl (rNe s1)))]) (As := [.int (fMark T s1)]) (rest := []) hI (c_Head_addKey (ah := ad 5) (av := ad 6) (ar := ad 7) (cv := cd 3) (cr := cd 4) (tv := 3) (tr := 4) rfl rfl (rVs s1, rVr s1) (fMark T s1)) (cw_V (C := "HeadDesk$Head") 1 hts m_137 m_139 m_140 m_40 m_138 (by decide +kernel) ⟨by decide, by decide⟩) hX hA hP hD hS [5, 6, 7] [0, 1, 2, 3, 4] rfl rfl (by decide) (by decide) (by decide) (va_recv hX.1 hP (ci := 0) (q0 := 5) rfl rfl) rfl hl.1 rfl (Nat.le_of_ble_eq_true rfl) d_Reader_readKeys_39 ⟨Nat.zero_le _, Nat.zero_le _⟩ (fun H locs hP hD hS => ?_)
              obtain ⟨s_39, e_39⟩ : ∃ z : RS, z = sVs s1 (hKey (rVs s1) (fMark T s1)) := ⟨_, rfl⟩
              have hP : va_P D vwCl (rdW ad cd T s_39) H := by rw [e_39]; exact hP.sub [0, 1, 2, 3, 4, 5, 6, 7] rfl
              have hD : va_D A (rdW ad cd T s_39) := by rw [e_39]; exact hD.sub [0, 1, 2, 3, 4, 5, 6, 7] (by decide) rfl
              refine lv_aload_n hx hb d_Reader_readKeys_42 rfl (lv_at hl 2 rfl) ?_
              refine lv_dup hx hb d_Reader_readKeys_43 rfl ?_
              refine va_get (D := D) (ci := 1) (v := .int (rPl s_39)) (C := "HeadDesk$Reader") (T := F_Reader) (N := 11) hx hb hts a_Reader hown hX.1 hP 0 rfl rfl 6 (by decide) (hts _ m_47) (fun _ h9 => h9) rfl d_Reader_readKeys_44 ?_
              refine lv_iconst (v := 1) hx hb d_Reader_readKeys_47 (by decide) ?_
              refine lv_iadd hx hb d_Reader_readKeys_48 ?_
              refine va_put (D := D) (ci := 1) (v := .int ((rPl s_39) + 1)) (ty := .int) (C := "HeadDesk$Reader") (T := F_Reader) (N := 11) hx hb hts a_Reader t_Reader k_Reader n_Reader hown hX.1 hP hD hS 0 rfl rfl 6 (by decide) (hts _ m_47) (fun _ h9 => h9) rfl (by decide +kernel) rfl rfl (Nat.le_of_ble_eq_true rfl) d_Reader_readKeys_49 (fun H locs hP hD hS => ?_)
              have hP : va_P D vwCl (rdW ad cd T (sPl s_39 ((rPl s_39) + 1))) H := hP
              have hD : va_D A (rdW ad cd T (sPl s_39 ((rPl s_39) + 1))) := hD
              refine lv_iload_n hx hb d_Reader_readKeys_52 rfl (lv_at hl 1 rfl) ?_
              refine lv_bipush (v := 8) hx hb d_Reader_readKeys_53 (by decide) ?_
              refine lv_icmp_eq (tgt := 67) hx hb d_Reader_readKeys_55 (by decide) (fun c_55 => ?_) (fun c_55 => ?_)
              · skip
                have c_55 : k = 0 := nI_k0 (N := 8) rfl (by omega) (by omega) c_55
                refine lv_iconst (v := 1) hx hb d_Reader_readKeys_67 (by decide) ?_
                exact hret H locs (sPl s_39 ((rPl s_39) + 1)) true _ _ hP hD hS (pr2 (by first | (rw [hF]; ((try simp only [fKeyL]) <;> simp only [fKeyL, keyS, nxt, if_neg c_5, if_neg c_16, if_pos c_22, if_pos c_55, ← e_39, fStop, if_true, if_false, Bool.false_eq_true, ↓reduceIte]); done) | (rw [hF]; ((try simp only [fKeyL]) <;> simp only [fKeyL, keyS, nxt, if_neg c_5, if_neg c_16, if_pos c_22, if_pos c_55, ← e_39, fStop, if_true, if_false, Bool.false_eq_true, ↓reduceIte]); with_reducible rfl) | (rw [hF]; ((try simp only [fKeyL]) <;> simp only [fKeyL, keyS, nxt, if_neg c_5, if_neg c_16, if_pos c_22, if_pos c_55, ← e_39, fStop, if_true, if_false, Bool.false_eq_true, ↓reduceIte]); rw [e_39]))) d_Reader_readKeys_68
              · skip
                have c_55 : ¬ k = 0 := fun h => c_55 (nI_k1 (N := 8) rfl (by omega))
                refine lv_aload_n hx hb d_Reader_readKeys_58 rfl (lv_at hl 2 rfl) ?_
                refine lv_bipush (v := 32) hx hb d_Reader_readKeys_59 (by decide) ?_
                refine hx_Vz (wr := []) (As := [.int 32]) (rest := []) hI (c_Reader_skip hT (sPl s_39 ((rPl s_39) + 1)) 32) (cw_V (C := "HeadDesk$Reader") 1 hts m_100 m_102 m_103 m_57 m_101 (by decide +kernel) ⟨by decide, by decide⟩) hX hA hP hD hS [0, 1, 2, 3, 4, 5, 6, 7] [] rfl rfl (by decide) (by decide) (by decide) (va_recv hX.1 hP (ci := 1) (q0 := 0) rfl rfl) rfl hl.1 rfl (Nat.le_of_ble_eq_true rfl) d_Reader_readKeys_61 ⟨Nat.zero_le _, Nat.zero_le _⟩ (fun H locs hP hD hS => ?_)
                obtain ⟨s_61, e_61⟩ : ∃ z : RS, z = (fSkip T (sPl s_39 ((rPl s_39) + 1)) 32).2 := ⟨_, rfl⟩
                have hP : va_P D vwCl (rdW ad cd T s_61) H := by rw [e_61]; exact hP
                have hD : va_D A (rdW ad cd T s_61) := by rw [e_61]; exact hD
                refine lv_if_ne (tgt := 69) hx hb d_Reader_readKeys_64 (by decide) (fun c_64 => ?_) (fun c_64 => ?_)
                · skip
                  have c_64 : ((fSkip T (sPl s_39 ((rPl s_39) + 1)) 32).1) = true := bI_1 c_64
                  refine lv_iinc (v := nI (j + 1)) (lv' := [(1, .int (nI (j + 1))), (2, .int (fMark T s1)), (0, .ref (ad 0))]) hx hb d_Reader_readKeys_69 hl (k := 1) rfl (by rw [nI_succ]; rfl) (by decide) rfl (fun ls hl => ?_)
                  refine lv_goto (tgt := 2) hx hb d_Reader_readKeys_72 (by decide) ?_
                  exact ih (j + 1) s_61 H locs ls (by omega)  (by first | (rw [hF]; ((try simp only [fKeyL]) <;> simp only [fKeyL, keyS, nxt, if_neg c_5, if_neg c_16, if_pos c_22, if_neg c_55, c_64, bnd_t c_64, ← e_39, ← e_61, fStop, if_true, if_false, Bool.false_eq_true, ↓reduceIte]); done) | (rw [hF]; ((try simp only [fKeyL]) <;> simp only [fKeyL, keyS, nxt, if_neg c_5, if_neg c_16, if_pos c_22, if_neg c_55, c_64, bnd_t c_64, ← e_39, ← e_61, fStop, if_true, if_false, Bool.false_eq_true, ↓reduceIte]); with_reducible rfl) | (rw [hF]; ((try simp only [fKeyL]) <;> simp only [fKeyL, keyS, nxt, if_neg c_5, if_neg c_16, if_pos c_22, if_neg c_55, c_64, bnd_t c_64, ← e_39, ← e_61, fStop, if_true, if_false, Bool.false_eq_true, ↓reduceIte]); rw [e_61])) hP hD hS (lv_sub hl [0, 2] rfl)
                · skip
                  have c_64 : ((fSkip T (sPl s_39 ((rPl s_39) + 1)) 32).1) = false := bI_0 c_64
                  refine lv_iconst (v := 1) hx hb d_Reader_readKeys_67 (by decide) ?_
                  exact hret H locs s_61 true _ _ hP hD hS (pr2 (by first | (rw [hF]; ((try simp only [fKeyL]) <;> simp only [fKeyL, keyS, nxt, if_neg c_5, if_neg c_16, if_pos c_22, if_neg c_55, c_64, bnd_f c_64, ← e_39, ← e_61, fStop, if_true, if_false, Bool.false_eq_true, ↓reduceIte]); done) | (rw [hF]; ((try simp only [fKeyL]) <;> simp only [fKeyL, keyS, nxt, if_neg c_5, if_neg c_16, if_pos c_22, if_neg c_55, c_64, bnd_f c_64, ← e_39, ← e_61, fStop, if_true, if_false, Bool.false_eq_true, ↓reduceIte]); with_reducible rfl) | (rw [hF]; ((try simp only [fKeyL]) <;> simp only [fKeyL, keyS, nxt, if_neg c_5, if_neg c_16, if_pos c_22, if_neg c_55, c_64, bnd_f c_64, ← e_39, ← e_61, fStop, if_true, if_false, Bool.false_eq_true, ↓reduceIte]); rw [e_61]))) d_Reader_readKeys_68
            · skip
              have c_22 : ¬ (fMark T s1 ≤ 104) := c_22
              refine lv_aload_n hx hb d_Reader_readKeys_25 rfl (lv_at hl 2 rfl) ?_
              refine lv_aload_n hx hb d_Reader_readKeys_26 rfl (lv_at hl 2 rfl) ?_
              refine va_get (D := D) (ci := 1) (v := .int (rPl s1)) (C := "HeadDesk$Reader") (T := F_Reader) (N := 11) hx hb hts a_Reader hown hX.1 hP 0 rfl rfl 6 (by decide) (hts _ m_47) (fun _ h9 => h9) rfl d_Reader_readKeys_27 ?_
              refine hx_Vz (wr := []) (As := [.int (rPl s1)]) (rest := []) hI (c_Reader_stop hT s1 (rPl s1)) (cw_V (C := "HeadDesk$Reader") 1 hts m_58 m_60 m_61 m_57 m_59 (by decide +kernel) ⟨by decide, by decide⟩) hX hA hP hD hS [0, 1, 2, 3, 4, 5, 6, 7] [] rfl rfl (by decide) (by decide) (by decide) (va_recv hX.1 hP (ci := 1) (q0 := 0) rfl rfl) rfl hl.1 rfl (Nat.le_of_ble_eq_true rfl) d_Reader_readKeys_30 ⟨Nat.zero_le _, Nat.zero_le _⟩ (fun H locs hP hD hS => ?_)
              obtain ⟨s_30, e_30⟩ : ∃ z : RS, z = sSk s1 (rPl s1) := ⟨_, rfl⟩
              have hP : va_P D vwCl (rdW ad cd T s_30) H := by rw [e_30]; exact hP
              have hD : va_D A (rdW ad cd T s_30) := by rw [e_30]; exact hD
              exact hret H locs s_30 false _ _ hP hD hS (pr2 (by first | (rw [hF]; ((try simp only [fKeyL]) <;> simp only [fKeyL, keyS, nxt, if_neg c_5, if_neg c_16, if_neg c_22, ← e_30, fStop, if_true, if_false, Bool.false_eq_true, ↓reduceIte]); done) | (rw [hF]; ((try simp only [fKeyL]) <;> simp only [fKeyL, keyS, nxt, if_neg c_5, if_neg c_16, if_neg c_22, ← e_30, fStop, if_true, if_false, Bool.false_eq_true, ↓reduceIte]); with_reducible rfl) | (rw [hF]; ((try simp only [fKeyL]) <;> simp only [fKeyL, keyS, nxt, if_neg c_5, if_neg c_16, if_neg c_22, ← e_30, fStop, if_true, if_false, Bool.false_eq_true, ↓reduceIte]); rw [e_30]))) d_Reader_readKeys_33
    exact loop2 8 1 st H locs ls (by omega) rfl hP hD hS (lv_sub hl [0, 1] rfl)
  rw [hH, hlo] at goal
  exact goal
set_option maxHeartbeats 4000000 in
set_option maxRecDepth 100000 in
theorem c_Reader_readList (hT : T.2 ≤ 300) (st : RS)  : hx_Mz l D (tyH cd) adK adV tF (rdW ad cd T) y_Reader_readList w_Reader_readList (rmD 7) [.ref (ad 0)] st ((fLisL T 300 st).1) ((fLisL T 300 st).2) := by
  refine hx_Mz.of (cc := b_Reader_readList) (maxL := 2) (by decide) rfl (Nat.le_of_ble_eq_true rfl) ?_
  intro p e s m below meth c A Q ls hI hX hA hP hD hS hl hret
  obtain ⟨hx, hb, hml, hown, hts⟩ := id hI
  have hts : ∀ w ∈ aw, w.before ([.ref (ad 0)] : List Value).toArray s = true := fun w h => hts w (List.mem_cons_of_mem _ h)
  have hown : s.vm.findClass "HeadDesk$Reader" = some m.cls := hown
  have hI : hx_In p s m ([.ref (ad 0)] : List Value).toArray c b_Reader_readList 2 "HeadDesk$Reader" aw := ⟨hx, hb, hml, hown, hts⟩
  have hP : va_P D vwCl (rdW ad cd T st) s.heap := hP
  obtain ⟨H, hH⟩ : ∃ H, H = s.heap := ⟨_, rfl⟩
  obtain ⟨locs, hlo⟩ : ∃ locs : List Loc, locs = [] := ⟨_, rfl⟩
  have hS : va_S A s.heap H locs := by rw [hH, hlo]; exact hS
  have hP : va_P D vwCl (rdW ad cd T st) H := by rw [hH]; exact hP
  have hl : lv_has ls 2 [(0, .ref (ad 0))] := hl
  have goal : W p l e (rmD 7) s m ([.ref (ad 0)] : List Value).toArray below meth c H locs 0 0 Q (F0 m 0 ls []) := by
    refine lv_iconst (v := 0) hx hb d_Reader_readList_0 (by decide) ?_
    refine lv_istore_n (lv' := [(1, .int 0), (0, .ref (ad 0))]) hx hb d_Reader_readList_1 rfl hl (by decide) rfl (fun ls hl => ?_)
    have loop2 : ∀ (k : Nat) (j : Nat) (s1 : RS) (H : Heap) (locs : List Loc) (ls : Array Slot), j + k = 300 → fLisL T 300 st = fLisL T k s1 → va_P D vwCl (rdW ad cd T s1) H → va_D A (rdW ad cd T s1) → va_S A s.heap H locs → lv_has ls 2 [(1, .int (nI j)), (0, .ref (ad 0))] → W p l e (rmD 7) s m ([.ref (ad 0)] : List Value).toArray below meth c H locs 0 0 Q (F0 m 2 ls []) := by
      intro k
      induction k with
      | zero =>
        intro j s1 H locs ls hj hF hP hD hS hl
        refine lv_iload_n hx hb d_Reader_readList_2 rfl (lv_at hl 0 rfl) ?_
        refine lv_sipush (v := 300) hx hb d_Reader_readList_3 (by decide) ?_
        refine lv_icmp_ge (tgt := 82) hx hb d_Reader_readList_6 (by decide) (fun c_6 => ?_) (fun c_6 => ?_)
        · skip
          have c_6 : (300 ≤ nI j) := c_6
          refine lv_aload_n hx hb d_Reader_readList_82 rfl (lv_at hl 1 rfl) ?_
          refine lv_aload_n hx hb d_Reader_readList_83 rfl (lv_at hl 1 rfl) ?_
          refine va_get (D := D) (ci := 1) (v := .int (rPl s1)) (C := "HeadDesk$Reader") (T := F_Reader) (N := 11) hx hb hts a_Reader hown hX.1 hP 0 rfl rfl 6 (by decide) (hts _ m_47) (fun _ h9 => h9) rfl d_Reader_readList_84 ?_
          refine hx_Vz (wr := []) (As := [.int (rPl s1)]) (rest := []) hI (c_Reader_stop hT s1 (rPl s1)) (cw_V (C := "HeadDesk$Reader") 1 hts m_58 m_60 m_61 m_57 m_59 (by decide +kernel) ⟨by decide, by decide⟩) hX hA hP hD hS [0, 1, 2, 3, 4, 5, 6, 7] [] rfl rfl (by decide) (by decide) (by decide) (va_recv hX.1 hP (ci := 1) (q0 := 0) rfl rfl) rfl hl.1 rfl (Nat.le_of_ble_eq_true rfl) d_Reader_readList_87 ⟨Nat.zero_le _, Nat.zero_le _⟩ (fun H locs hP hD hS => ?_)
          obtain ⟨s_87, e_87⟩ : ∃ z : RS, z = sSk s1 (rPl s1) := ⟨_, rfl⟩
          have hP : va_P D vwCl (rdW ad cd T s_87) H := by rw [e_87]; exact hP
          have hD : va_D A (rdW ad cd T s_87) := by rw [e_87]; exact hD
          exact hret H locs s_87 false _ _ hP hD hS (pr2 (by first | (rw [hF]; ((try simp only [fLisL]) <;> simp only [fLisL, lisE, if_pos c_6, ← e_87, fStop, if_true, if_false, Bool.false_eq_true, ↓reduceIte]); done) | (rw [hF]; ((try simp only [fLisL]) <;> simp only [fLisL, lisE, if_pos c_6, ← e_87, fStop, if_true, if_false, Bool.false_eq_true, ↓reduceIte]); with_reducible rfl) | (rw [hF]; ((try simp only [fLisL]) <;> simp only [fLisL, lisE, if_pos c_6, ← e_87, fStop, if_true, if_false, Bool.false_eq_true, ↓reduceIte]); rw [e_87]))) d_Reader_readList_90
        · skip
          exact absurd (nI_gyes (N := 300) rfl (by omega) (by omega)) c_6
      | succ k ih =>
        intro j s1 H locs ls hj hF hP hD hS hl
        refine lv_iload_n hx hb d_Reader_readList_2 rfl (lv_at hl 0 rfl) ?_
        refine lv_sipush (v := 300) hx hb d_Reader_readList_3 (by decide) ?_
        refine lv_icmp_ge (tgt := 82) hx hb d_Reader_readList_6 (by decide) (fun c_6 => ?_) (fun c_6 => ?_)
        · skip
          exact absurd c_6 (nI_gno (N := 300) rfl (by omega) (by omega))
        · skip
          have c_6 : ¬ (300 ≤ nI j) := c_6
          refine lv_aload_n hx hb d_Reader_readList_9 rfl (lv_at hl 1 rfl) ?_
          refine lv_bipush (v := 30) hx hb d_Reader_readList_10 (by decide) ?_
          refine hx_Vz (wr := []) (As := [.int 30]) (rest := []) hI (c_Reader_takeLetters hT s1 30 (by decide)) (cw_V (C := "HeadDesk$Reader") 1 hts m_125 m_127 m_128 m_57 m_126 (by decide +kernel) ⟨by decide, by decide⟩) hX hA hP hD hS [0, 1, 2, 3, 4, 5, 6, 7] [] rfl rfl (by decide) (by decide) (by decide) (va_recv hX.1 hP (ci := 1) (q0 := 0) rfl rfl) rfl hl.1 rfl (Nat.le_of_ble_eq_true rfl) d_Reader_readList_12 ⟨Nat.zero_le _, Nat.zero_le _⟩ (fun H locs hP hD hS => ?_)
          obtain ⟨s_12, e_12⟩ : ∃ z : RS, z = (fLet T s1 30).2 := ⟨_, rfl⟩
          have hP : va_P D vwCl (rdW ad cd T s_12) H := by rw [e_12]; exact hP
          have hD : va_D A (rdW ad cd T s_12) := by rw [e_12]; exact hD
          refine lv_if_ne (tgt := 20) hx hb d_Reader_readList_15 (by decide) (fun c_15 => ?_) (fun c_15 => ?_)
          · skip
            have c_15 : ((fLet T s1 30).1) = true := bI_1 c_15
            refine lv_aload_n hx hb d_Reader_readList_20 rfl (lv_at hl 1 rfl) ?_
            refine lv_bipush (v := 61) hx hb d_Reader_readList_21 (by decide) ?_
            refine hx_Vz (wr := []) (As := [.int 61]) (rest := []) hI (c_Reader_skip hT s_12 61) (cw_V (C := "HeadDesk$Reader") 1 hts m_100 m_102 m_103 m_57 m_101 (by decide +kernel) ⟨by decide, by decide⟩) hX hA hP hD hS [0, 1, 2, 3, 4, 5, 6, 7] [] rfl rfl (by decide) (by decide) (by decide) (va_recv hX.1 hP (ci := 1) (q0 := 0) rfl rfl) rfl hl.1 rfl (Nat.le_of_ble_eq_true rfl) d_Reader_readList_23 ⟨Nat.zero_le _, Nat.zero_le _⟩ (fun H locs hP hD hS => ?_)
            obtain ⟨s_23, e_23⟩ : ∃ z : RS, z = (fSkip T s_12 61).2 := ⟨_, rfl⟩
            have hP : va_P D vwCl (rdW ad cd T s_23) H := by rw [e_23]; exact hP
            have hD : va_D A (rdW ad cd T s_23) := by rw [e_23]; exact hD
            refine lv_if_ne (tgt := 36) hx hb d_Reader_readList_26 (by decide) (fun c_26 => ?_) (fun c_26 => ?_)
            · skip
              have c_26 : ((fSkip T s_12 61).1) = true := bI_1 c_26
              refine lv_aload_n hx hb d_Reader_readList_36 rfl (lv_at hl 1 rfl) ?_
              refine lv_ldc (v := 99999) hx hb hown (hts _ m_120) d_Reader_readList_37 ?_
              refine hx_Vz (wr := []) (As := [.int 99999]) (rest := []) hI (c_Reader_takeNumber hT s_23 99999) (cw_V (C := "HeadDesk$Reader") 1 hts m_96 m_98 m_99 m_57 m_97 (by decide +kernel) ⟨by decide, by decide⟩) hX hA hP hD hS [0, 1, 2, 3, 4, 5, 6, 7] [] rfl rfl (by decide) (by decide) (by decide) (va_recv hX.1 hP (ci := 1) (q0 := 0) rfl rfl) rfl hl.1 rfl (Nat.le_of_ble_eq_true rfl) d_Reader_readList_39 ⟨Nat.zero_le _, Nat.zero_le _⟩ (fun H locs hP hD hS => ?_)
              obtain ⟨s_39, e_39⟩ : ∃ z : RS, z = (fNum T s_23 99999).2 := ⟨_, rfl⟩
              have hP : va_P D vwCl (rdW ad cd T s_39) H := by rw [e_39]; exact hP
              have hD : va_D A (rdW ad cd T s_39) := by rw [e_39]; exact hD
              refine lv_if_eq (tgt := 52) hx hb d_Reader_readList_42 (by decide) (fun c_42 => ?_) (fun c_42 => ?_)
              · skip
                have c_42 : ((fNum T s_23 99999).1) = false := bI_0 c_42
                refine lv_iconst (v := 0) hx hb d_Reader_readList_52 (by decide) ?_
                exact hret H locs s_39 false _ _ hP hD hS (pr2 (by first | (rw [hF]; ((try simp only [fLisL]) <;> simp only [fLisL, lisE, if_neg c_6, c_15, c_26, c_42, bnd_t c_15, bnd_t c_26, bnd_f c_42, ← e_12, ← e_23, ← e_39, fStop, if_true, if_false, Bool.false_eq_true, ↓reduceIte]); done) | (rw [hF]; ((try simp only [fLisL]) <;> simp only [fLisL, lisE, if_neg c_6, c_15, c_26, c_42, bnd_t c_15, bnd_t c_26, bnd_f c_42, ← e_12, ← e_23, ← e_39, fStop, if_true, if_false, Bool.false_eq_true, ↓reduceIte]); with_reducible rfl) | (rw [hF]; ((try simp only [fLisL]) <;> simp only [fLisL, lisE, if_neg c_6, c_15, c_26, c_42, bnd_t c_15, bnd_t c_26, bnd_f c_42, ← e_12, ← e_23, ← e_39, fStop, if_true, if_false, Bool.false_eq_true, ↓reduceIte]); rw [e_39]))) d_Reader_readList_53
              · skip
                have c_42 : ((fNum T s_23 99999).1) = true := bI_1 c_42
                refine lv_aload_n hx hb d_Reader_readList_45 rfl (lv_at hl 1 rfl) ?_
                refine hx_Vv (wr := []) (As := []) (rest := []) hI (c_Reader_countWithNumber hT s_39 ) (cw_V (C := "HeadDesk$Reader") 0 hts m_141 m_143 m_144 m_57 m_142 (by decide +kernel) ⟨by decide, by decide⟩) hX hA hP hD hS [0, 1, 2, 3, 4, 5, 6, 7] [] rfl rfl (by decide) (by decide) (by decide) (va_recv hX.1 hP (ci := 1) (q0 := 0) rfl rfl) rfl hl.1 rfl (Nat.le_of_ble_eq_true rfl) d_Reader_readList_46 ⟨Nat.zero_le _, Nat.zero_le _⟩ (fun H locs hP hD hS => ?_)
                obtain ⟨s_46, e_46⟩ : ∃ z : RS, z = fWith T s_39 := ⟨_, rfl⟩
                have hP : va_P D vwCl (rdW ad cd T s_46) H := by rw [e_46]; exact hP
                have hD : va_D A (rdW ad cd T s_46) := by rw [e_46]; exact hD
                refine lv_goto (tgt := 54) hx hb d_Reader_readList_49 (by decide) ?_
                refine lv_aload_n hx hb d_Reader_readList_54 rfl (lv_at hl 1 rfl) ?_
                refine lv_bipush (v := 44) hx hb d_Reader_readList_55 (by decide) ?_
                refine hx_Vz (wr := []) (As := [.int 44]) (rest := []) hI (c_Reader_skip hT s_46 44) (cw_V (C := "HeadDesk$Reader") 1 hts m_100 m_102 m_103 m_57 m_101 (by decide +kernel) ⟨by decide, by decide⟩) hX hA hP hD hS [0, 1, 2, 3, 4, 5, 6, 7] [] rfl rfl (by decide) (by decide) (by decide) (va_recv hX.1 hP (ci := 1) (q0 := 0) rfl rfl) rfl hl.1 rfl (Nat.le_of_ble_eq_true rfl) d_Reader_readList_57 ⟨Nat.zero_le _, Nat.zero_le _⟩ (fun H locs hP hD hS => ?_)
                obtain ⟨s_57, e_57⟩ : ∃ z : RS, z = (fSkip T s_46 44).2 := ⟨_, rfl⟩
                have hP : va_P D vwCl (rdW ad cd T s_57) H := by rw [e_57]; exact hP
                have hD : va_D A (rdW ad cd T s_57) := by rw [e_57]; exact hD
                refine lv_if_ne (tgt := 65) hx hb d_Reader_readList_60 (by decide) (fun c_60 => ?_) (fun c_60 => ?_)
                · skip
                  have c_60 : ((fSkip T s_46 44).1) = true := bI_1 c_60
                  refine lv_aload_n hx hb d_Reader_readList_65 rfl (lv_at hl 1 rfl) ?_
                  refine lv_bipush (v := 32) hx hb d_Reader_readList_66 (by decide) ?_
                  refine hx_Vz (wr := []) (As := [.int 32]) (rest := []) hI (c_Reader_take hT s_57 32) (cw_V (C := "HeadDesk$Reader") 1 hts m_112 m_114 m_115 m_57 m_113 (by decide +kernel) ⟨by decide, by decide⟩) hX hA hP hD hS [0, 1, 2, 3, 4, 5, 6, 7] [] rfl rfl (by decide) (by decide) (by decide) (va_recv hX.1 hP (ci := 1) (q0 := 0) rfl rfl) rfl hl.1 rfl (Nat.le_of_ble_eq_true rfl) d_Reader_readList_68 ⟨Nat.zero_le _, Nat.zero_le _⟩ (fun H locs hP hD hS => ?_)
                  obtain ⟨s_68, e_68⟩ : ∃ z : RS, z = (fTake T s_57 32).2 := ⟨_, rfl⟩
                  have hP : va_P D vwCl (rdW ad cd T s_68) H := by rw [e_68]; exact hP
                  have hD : va_D A (rdW ad cd T s_68) := by rw [e_68]; exact hD
                  refine lv_if_ne (tgt := 76) hx hb d_Reader_readList_71 (by decide) (fun c_71 => ?_) (fun c_71 => ?_)
                  · skip
                    have c_71 : ((fTake T s_57 32).1) = true := bI_1 c_71
                    refine lv_iinc (v := nI (j + 1)) (lv' := [(1, .int (nI (j + 1))), (0, .ref (ad 0))]) hx hb d_Reader_readList_76 hl (k := 0) rfl (by rw [nI_succ]; rfl) (by decide) rfl (fun ls hl => ?_)
                    refine lv_goto (tgt := 2) hx hb d_Reader_readList_79 (by decide) ?_
                    exact ih (j + 1) s_68 H locs ls (by omega)  (by first | (rw [hF]; ((try simp only [fLisL]) <;> simp only [fLisL, lisE, if_neg c_6, c_15, c_26, c_42, c_60, c_71, bnd_t c_15, bnd_t c_26, bnd_t c_42, bnd_t c_60, bnd_t c_71, ← e_12, ← e_23, ← e_39, ← e_46, ← e_57, ← e_68, fStop, if_true, if_false, Bool.false_eq_true, ↓reduceIte]); done) | (rw [hF]; ((try simp only [fLisL]) <;> simp only [fLisL, lisE, if_neg c_6, c_15, c_26, c_42, c_60, c_71, bnd_t c_15, bnd_t c_26, bnd_t c_42, bnd_t c_60, bnd_t c_71, ← e_12, ← e_23, ← e_39, ← e_46, ← e_57, ← e_68, fStop, if_true, if_false, Bool.false_eq_true, ↓reduceIte]); with_reducible rfl) | (rw [hF]; ((try simp only [fLisL]) <;> simp only [fLisL, lisE, if_neg c_6, c_15, c_26, c_42, c_60, c_71, bnd_t c_15, bnd_t c_26, bnd_t c_42, bnd_t c_60, bnd_t c_71, ← e_12, ← e_23, ← e_39, ← e_46, ← e_57, ← e_68, fStop, if_true, if_false, Bool.false_eq_true, ↓reduceIte]); rw [e_68])) hP hD hS (lv_sub hl [0, 1] rfl)
                  · skip
                    have c_71 : ((fTake T s_57 32).1) = false := bI_0 c_71
                    refine lv_iconst (v := 0) hx hb d_Reader_readList_74 (by decide) ?_
                    exact hret H locs s_68 false _ _ hP hD hS (pr2 (by first | (rw [hF]; ((try simp only [fLisL]) <;> simp only [fLisL, lisE, if_neg c_6, c_15, c_26, c_42, c_60, c_71, bnd_t c_15, bnd_t c_26, bnd_t c_42, bnd_t c_60, bnd_f c_71, ← e_12, ← e_23, ← e_39, ← e_46, ← e_57, ← e_68, fStop, if_true, if_false, Bool.false_eq_true, ↓reduceIte]); done) | (rw [hF]; ((try simp only [fLisL]) <;> simp only [fLisL, lisE, if_neg c_6, c_15, c_26, c_42, c_60, c_71, bnd_t c_15, bnd_t c_26, bnd_t c_42, bnd_t c_60, bnd_f c_71, ← e_12, ← e_23, ← e_39, ← e_46, ← e_57, ← e_68, fStop, if_true, if_false, Bool.false_eq_true, ↓reduceIte]); with_reducible rfl) | (rw [hF]; ((try simp only [fLisL]) <;> simp only [fLisL, lisE, if_neg c_6, c_15, c_26, c_42, c_60, c_71, bnd_t c_15, bnd_t c_26, bnd_t c_42, bnd_t c_60, bnd_f c_71, ← e_12, ← e_23, ← e_39, ← e_46, ← e_57, ← e_68, fStop, if_true, if_false, Bool.false_eq_true, ↓reduceIte]); rw [e_68]))) d_Reader_readList_75
                · skip
                  have c_60 : ((fSkip T s_46 44).1) = false := bI_0 c_60
                  refine lv_iconst (v := 1) hx hb d_Reader_readList_63 (by decide) ?_
                  exact hret H locs s_57 true _ _ hP hD hS (pr2 (by first | (rw [hF]; ((try simp only [fLisL]) <;> simp only [fLisL, lisE, if_neg c_6, c_15, c_26, c_42, c_60, bnd_t c_15, bnd_t c_26, bnd_t c_42, bnd_f c_60, ← e_12, ← e_23, ← e_39, ← e_46, ← e_57, fStop, if_true, if_false, Bool.false_eq_true, ↓reduceIte]); done) | (rw [hF]; ((try simp only [fLisL]) <;> simp only [fLisL, lisE, if_neg c_6, c_15, c_26, c_42, c_60, bnd_t c_15, bnd_t c_26, bnd_t c_42, bnd_f c_60, ← e_12, ← e_23, ← e_39, ← e_46, ← e_57, fStop, if_true, if_false, Bool.false_eq_true, ↓reduceIte]); with_reducible rfl) | (rw [hF]; ((try simp only [fLisL]) <;> simp only [fLisL, lisE, if_neg c_6, c_15, c_26, c_42, c_60, bnd_t c_15, bnd_t c_26, bnd_t c_42, bnd_f c_60, ← e_12, ← e_23, ← e_39, ← e_46, ← e_57, fStop, if_true, if_false, Bool.false_eq_true, ↓reduceIte]); rw [e_57]))) d_Reader_readList_64
            · skip
              have c_26 : ((fSkip T s_12 61).1) = false := bI_0 c_26
              refine lv_aload_n hx hb d_Reader_readList_29 rfl (lv_at hl 1 rfl) ?_
              refine hx_Vv (wr := []) (As := []) (rest := []) hI (c_Reader_countBare hT s_23 ) (cw_V (C := "HeadDesk$Reader") 0 hts m_145 m_147 m_148 m_57 m_146 (by decide +kernel) ⟨by decide, by decide⟩) hX hA hP hD hS [0, 1, 2, 3, 4, 5, 6, 7] [] rfl rfl (by decide) (by decide) (by decide) (va_recv hX.1 hP (ci := 1) (q0 := 0) rfl rfl) rfl hl.1 rfl (Nat.le_of_ble_eq_true rfl) d_Reader_readList_30 ⟨Nat.zero_le _, Nat.zero_le _⟩ (fun H locs hP hD hS => ?_)
              obtain ⟨s_30, e_30⟩ : ∃ z : RS, z = fBare T s_23 := ⟨_, rfl⟩
              have hP : va_P D vwCl (rdW ad cd T s_30) H := by rw [e_30]; exact hP
              have hD : va_D A (rdW ad cd T s_30) := by rw [e_30]; exact hD
              refine lv_goto (tgt := 54) hx hb d_Reader_readList_33 (by decide) ?_
              refine lv_aload_n hx hb d_Reader_readList_54 rfl (lv_at hl 1 rfl) ?_
              refine lv_bipush (v := 44) hx hb d_Reader_readList_55 (by decide) ?_
              refine hx_Vz (wr := []) (As := [.int 44]) (rest := []) hI (c_Reader_skip hT s_30 44) (cw_V (C := "HeadDesk$Reader") 1 hts m_100 m_102 m_103 m_57 m_101 (by decide +kernel) ⟨by decide, by decide⟩) hX hA hP hD hS [0, 1, 2, 3, 4, 5, 6, 7] [] rfl rfl (by decide) (by decide) (by decide) (va_recv hX.1 hP (ci := 1) (q0 := 0) rfl rfl) rfl hl.1 rfl (Nat.le_of_ble_eq_true rfl) d_Reader_readList_57 ⟨Nat.zero_le _, Nat.zero_le _⟩ (fun H locs hP hD hS => ?_)
              obtain ⟨s_57, e_57⟩ : ∃ z : RS, z = (fSkip T s_30 44).2 := ⟨_, rfl⟩
              have hP : va_P D vwCl (rdW ad cd T s_57) H := by rw [e_57]; exact hP
              have hD : va_D A (rdW ad cd T s_57) := by rw [e_57]; exact hD
              refine lv_if_ne (tgt := 65) hx hb d_Reader_readList_60 (by decide) (fun c_60 => ?_) (fun c_60 => ?_)
              · skip
                have c_60 : ((fSkip T s_30 44).1) = true := bI_1 c_60
                refine lv_aload_n hx hb d_Reader_readList_65 rfl (lv_at hl 1 rfl) ?_
                refine lv_bipush (v := 32) hx hb d_Reader_readList_66 (by decide) ?_
                refine hx_Vz (wr := []) (As := [.int 32]) (rest := []) hI (c_Reader_take hT s_57 32) (cw_V (C := "HeadDesk$Reader") 1 hts m_112 m_114 m_115 m_57 m_113 (by decide +kernel) ⟨by decide, by decide⟩) hX hA hP hD hS [0, 1, 2, 3, 4, 5, 6, 7] [] rfl rfl (by decide) (by decide) (by decide) (va_recv hX.1 hP (ci := 1) (q0 := 0) rfl rfl) rfl hl.1 rfl (Nat.le_of_ble_eq_true rfl) d_Reader_readList_68 ⟨Nat.zero_le _, Nat.zero_le _⟩ (fun H locs hP hD hS => ?_)
                obtain ⟨s_68, e_68⟩ : ∃ z : RS, z = (fTake T s_57 32).2 := ⟨_, rfl⟩
                have hP : va_P D vwCl (rdW ad cd T s_68) H := by rw [e_68]; exact hP
                have hD : va_D A (rdW ad cd T s_68) := by rw [e_68]; exact hD
                refine lv_if_ne (tgt := 76) hx hb d_Reader_readList_71 (by decide) (fun c_71 => ?_) (fun c_71 => ?_)
                · skip
                  have c_71 : ((fTake T s_57 32).1) = true := bI_1 c_71
                  refine lv_iinc (v := nI (j + 1)) (lv' := [(1, .int (nI (j + 1))), (0, .ref (ad 0))]) hx hb d_Reader_readList_76 hl (k := 0) rfl (by rw [nI_succ]; rfl) (by decide) rfl (fun ls hl => ?_)
                  refine lv_goto (tgt := 2) hx hb d_Reader_readList_79 (by decide) ?_
                  exact ih (j + 1) s_68 H locs ls (by omega)  (by first | (rw [hF]; ((try simp only [fLisL]) <;> simp only [fLisL, lisE, if_neg c_6, c_15, c_26, c_60, c_71, bnd_t c_15, bnd_f c_26, bnd_t c_60, bnd_t c_71, ← e_12, ← e_23, ← e_30, ← e_57, ← e_68, fStop, if_true, if_false, Bool.false_eq_true, ↓reduceIte]); done) | (rw [hF]; ((try simp only [fLisL]) <;> simp only [fLisL, lisE, if_neg c_6, c_15, c_26, c_60, c_71, bnd_t c_15, bnd_f c_26, bnd_t c_60, bnd_t c_71, ← e_12, ← e_23, ← e_30, ← e_57, ← e_68, fStop, if_true, if_false, Bool.false_eq_true, ↓reduceIte]); with_reducible rfl) | (rw [hF]; ((try simp only [fLisL]) <;> simp only [fLisL, lisE, if_neg c_6, c_15, c_26, c_60, c_71, bnd_t c_15, bnd_f c_26, bnd_t c_60, bnd_t c_71, ← e_12, ← e_23, ← e_30, ← e_57, ← e_68, fStop, if_true, if_false, Bool.false_eq_true, ↓reduceIte]); rw [e_68])) hP hD hS (lv_sub hl [0, 1] rfl)
                · skip
                  have c_71 : ((fTake T s_57 32).1) = false := bI_0 c_71
                  refine lv_iconst (v := 0) hx hb d_Reader_readList_74 (by decide) ?_
                  exact hret H locs s_68 false _ _ hP hD hS (pr2 (by first | (rw [hF]; ((try simp only [fLisL]) <;> simp only [fLisL, lisE, if_neg c_6, c_15, c_26, c_60, c_71, bnd_t c_15, bnd_f c_26, bnd_t c_60, bnd_f c_71, ← e_12, ← e_23, ← e_30, ← e_57, ← e_68, fStop, if_true, if_false, Bool.false_eq_true, ↓reduceIte]); done) | (rw [hF]; ((try simp only [fLisL]) <;> simp only [fLisL, lisE, if_neg c_6, c_15, c_26, c_60, c_71, bnd_t c_15, bnd_f c_26, bnd_t c_60, bnd_f c_71, ← e_12, ← e_23, ← e_30, ← e_57, ← e_68, fStop, if_true, if_false, Bool.false_eq_true, ↓reduceIte]); with_reducible rfl) | (rw [hF]; ((try simp only [fLisL]) <;> simp only [fLisL, lisE, if_neg c_6, c_15, c_26, c_60, c_71, bnd_t c_15, bnd_f c_26, bnd_t c_60, bnd_f c_71, ← e_12, ← e_23, ← e_30, ← e_57, ← e_68, fStop, if_true, if_false, Bool.false_eq_true, ↓reduceIte]); rw [e_68]))) d_Reader_readList_75
              · skip
                have c_60 : ((fSkip T s_30 44).1) = false := bI_0 c_60
                refine lv_iconst (v := 1) hx hb d_Reader_readList_63 (by decide) ?_
                exact hret H locs s_57 true _ _ hP hD hS (pr2 (by first | (rw [hF]; ((try simp only [fLisL]) <;> simp only [fLisL, lisE, if_neg c_6, c_15, c_26, c_60, bnd_t c_15, bnd_f c_26, bnd_f c_60, ← e_12, ← e_23, ← e_30, ← e_57, fStop, if_true, if_false, Bool.false_eq_true, ↓reduceIte]); done) | (rw [hF]; ((try simp only [fLisL]) <;> simp only [fLisL, lisE, if_neg c_6, c_15, c_26, c_60, bnd_t c_15, bnd_f c_26, bnd_f c_60, ← e_12, ← e_23, ← e_30, ← e_57, fStop, if_true, if_false, Bool.false_eq_true, ↓reduceIte]); with_reducible rfl) | (rw [hF]; ((try simp only [fLisL]) <;> simp only [fLisL, lisE, if_neg c_6, c_15, c_26, c_60, bnd_t c_15, bnd_f c_26, bnd_f c_60, ← e_12, ← e_23, ← e_30, ← e_57, fStop, if_true, if_false, Bool.false_eq_true, ↓reduceIte]); rw [e_57]))) d_Reader_readList_64
          · skip
            have c_15 : ((fLet T s1 30).1) = false := bI_0 c_15
            refine lv_iconst (v := 0) hx hb d_Reader_readList_18 (by decide) ?_
            exact hret H locs s_12 false _ _ hP hD hS (pr2 (by first | (rw [hF]; ((try simp only [fLisL]) <;> simp only [fLisL, lisE, if_neg c_6, c_15, bnd_f c_15, ← e_12, fStop, if_true, if_false, Bool.false_eq_true, ↓reduceIte]); done) | (rw [hF]; ((try simp only [fLisL]) <;> simp only [fLisL, lisE, if_neg c_6, c_15, bnd_f c_15, ← e_12, fStop, if_true, if_false, Bool.false_eq_true, ↓reduceIte]); with_reducible rfl) | (rw [hF]; ((try simp only [fLisL]) <;> simp only [fLisL, lisE, if_neg c_6, c_15, bnd_f c_15, ← e_12, fStop, if_true, if_false, Bool.false_eq_true, ↓reduceIte]); rw [e_12]))) d_Reader_readList_19
    exact loop2 300 0 st H locs ls (by omega) rfl hP hD hS (lv_sub hl [0, 1] rfl)
  rw [hH, hlo] at goal
  exact goal
set_option maxHeartbeats 4000000 in
set_option maxRecDepth 100000 in
theorem c_Reader_readValue (hT : T.2 ≤ 300) (st : RS)  : hx_Mz l D (tyH cd) adK adV tF (rdW ad cd T) y_Reader_readValue w_Reader_readValue (rmD 8) [.ref (ad 0)] st ((fVal T st).1) ((fVal T st).2) := by
  refine hx_Mz.of (cc := b_Reader_readValue) (maxL := 1) (by decide) rfl (Nat.le_of_ble_eq_true rfl) ?_
  intro p e s m below meth c A Q ls hI hX hA hP hD hS hl hret
  obtain ⟨hx, hb, hml, hown, hts⟩ := id hI
  have hts : ∀ w ∈ aw, w.before ([.ref (ad 0)] : List Value).toArray s = true := fun w h => hts w (List.mem_cons_of_mem _ h)
  have hown : s.vm.findClass "HeadDesk$Reader" = some m.cls := hown
  have hI : hx_In p s m ([.ref (ad 0)] : List Value).toArray c b_Reader_readValue 1 "HeadDesk$Reader" aw := ⟨hx, hb, hml, hown, hts⟩
  have hP : va_P D vwCl (rdW ad cd T st) s.heap := hP
  obtain ⟨H, hH⟩ : ∃ H, H = s.heap := ⟨_, rfl⟩
  obtain ⟨locs, hlo⟩ : ∃ locs : List Loc, locs = [] := ⟨_, rfl⟩
  have hS : va_S A s.heap H locs := by rw [hH, hlo]; exact hS
  have hP : va_P D vwCl (rdW ad cd T st) H := by rw [hH]; exact hP
  have hl : lv_has ls 1 [(0, .ref (ad 0))] := hl
  have goal : W p l e (rmD 8) s m ([.ref (ad 0)] : List Value).toArray below meth c H locs 0 0 Q (F0 m 0 ls []) := by
    refine lv_aload_n hx hb d_Reader_readValue_0 rfl (lv_at hl 0 rfl) ?_
    refine lv_bipush (v := 32) hx hb d_Reader_readValue_1 (by decide) ?_
    refine hx_Vz (wr := []) (As := [.int 32]) (rest := []) hI (c_Reader_skip hT st 32) (cw_V (C := "HeadDesk$Reader") 1 hts m_100 m_102 m_103 m_57 m_101 (by decide +kernel) ⟨by decide, by decide⟩) hX hA hP hD hS [0, 1, 2, 3, 4, 5, 6, 7] [] rfl rfl (by decide) (by decide) (by decide) (va_recv hX.1 hP (ci := 1) (q0 := 0) rfl rfl) rfl hl.1 rfl (Nat.le_of_ble_eq_true rfl) d_Reader_readValue_3 ⟨Nat.zero_le _, Nat.zero_le _⟩ (fun H locs hP hD hS => ?_)
    obtain ⟨s_3, e_3⟩ : ∃ z : RS, z = (fSkip T st 32).2 := ⟨_, rfl⟩
    have hP : va_P D vwCl (rdW ad cd T s_3) H := by rw [e_3]; exact hP
    have hD : va_D A (rdW ad cd T s_3) := by rw [e_3]; exact hD
    refine lv_pop hx hb d_Reader_readValue_6 rfl ?_
    refine lv_aload_n hx hb d_Reader_readValue_7 rfl (lv_at hl 0 rfl) ?_
    refine va_ldcS hx hb hown (hX.2.2.2.2.2.1 _ _ _ _ st_4) d_Reader_readValue_8 ?_
    refine hx_Vz (wr := []) (As := [.ref (adK 4)]) (rest := []) hI (c_Reader_isWordL hT s_3 (by decide) sw_4) (cw_V (C := "HeadDesk$Reader") 1 hts m_86 m_88 m_89 m_57 m_87 (by decide +kernel) ⟨by decide, by decide⟩) hX hA hP hD hS [0, 1, 2, 3, 4, 5, 6, 7] [] rfl rfl (by decide) (by decide) (by decide) (va_recv hX.1 hP (ci := 1) (q0 := 0) rfl rfl) rfl hl.1 rfl (Nat.le_of_ble_eq_true rfl) d_Reader_readValue_10 ⟨Nat.zero_le _, Nat.zero_le _⟩ (fun H locs hP hD hS => ?_)
    have hP : va_P D vwCl (rdW ad cd T s_3) H := hP
    have hD : va_D A (rdW ad cd T s_3) := hD
    refine lv_if_eq (tgt := 21) hx hb d_Reader_readValue_13 (by decide) (fun c_13 => ?_) (fun c_13 => ?_)
    · skip
      have c_13 : (fIsW T s_3 t_cache_control) = false := bI_0 c_13
      refine lv_aload_n hx hb d_Reader_readValue_21 rfl (lv_at hl 0 rfl) ?_
      refine va_get (D := D) (ci := 1) (v := .int (rKd s_3)) (C := "HeadDesk$Reader") (T := F_Reader) (N := 11) hx hb hts a_Reader hown hX.1 hP 0 rfl rfl 5 (by decide) (hts _ m_90) (fun _ h9 => h9) rfl d_Reader_readValue_22 ?_
      refine lv_if_ne (tgt := 42) hx hb d_Reader_readValue_25 (by decide) (fun c_25 => ?_) (fun c_25 => ?_)
      · skip
        have c_25 : ¬ (rKd s_3 = 0) := c_25
        refine lv_aload_n hx hb d_Reader_readValue_42 rfl (lv_at hl 0 rfl) ?_
        refine va_get (D := D) (ci := 1) (v := .int (rKd s_3)) (C := "HeadDesk$Reader") (T := F_Reader) (N := 11) hx hb hts a_Reader hown hX.1 hP 0 rfl rfl 5 (by decide) (hts _ m_90) (fun _ h9 => h9) rfl d_Reader_readValue_43 ?_
        refine lv_if_ne (tgt := 63) hx hb d_Reader_readValue_46 (by decide) (fun c_46 => ?_) (fun c_46 => ?_)
        · skip
          have c_46 : ¬ (rKd s_3 = 0) := c_46
          refine lv_aload_n hx hb d_Reader_readValue_63 rfl (lv_at hl 0 rfl) ?_
          refine va_get (D := D) (ci := 1) (v := .int (rKd s_3)) (C := "HeadDesk$Reader") (T := F_Reader) (N := 11) hx hb hts a_Reader hown hX.1 hP 0 rfl rfl 5 (by decide) (hts _ m_90) (fun _ h9 => h9) rfl d_Reader_readValue_64 ?_
          refine lv_iconst (v := 1) hx hb d_Reader_readValue_67 (by decide) ?_
          refine lv_icmp_ne (tgt := 85) hx hb d_Reader_readValue_68 (by decide) (fun c_68 => ?_) (fun c_68 => ?_)
          · skip
            have c_68 : ¬ (rKd s_3 = 1) := c_68
            refine lv_aload_n hx hb d_Reader_readValue_85 rfl (lv_at hl 0 rfl) ?_
            refine va_get (D := D) (ci := 1) (v := .int (rKd s_3)) (C := "HeadDesk$Reader") (T := F_Reader) (N := 11) hx hb hts a_Reader hown hX.1 hP 0 rfl rfl 5 (by decide) (hts _ m_90) (fun _ h9 => h9) rfl d_Reader_readValue_86 ?_
            refine lv_iconst (v := 1) hx hb d_Reader_readValue_89 (by decide) ?_
            refine lv_icmp_ne (tgt := 107) hx hb d_Reader_readValue_90 (by decide) (fun c_90 => ?_) (fun c_90 => ?_)
            · skip
              have c_90 : ¬ (rKd s_3 = 1) := c_90
              refine lv_aload_n hx hb d_Reader_readValue_107 rfl (lv_at hl 0 rfl) ?_
              refine hx_Vz (wr := []) (As := []) (rest := []) hI (c_Reader_readAnything hT s_3 ) (cw_V (C := "HeadDesk$Reader") 0 hts m_149 m_151 m_152 m_57 m_150 (by decide +kernel) ⟨by decide, by decide⟩) hX hA hP hD hS [0, 1, 2, 3, 4, 5, 6, 7] [] rfl rfl (by decide) (by decide) (by decide) (va_recv hX.1 hP (ci := 1) (q0 := 0) rfl rfl) rfl hl.1 rfl (Nat.le_of_ble_eq_true rfl) d_Reader_readValue_108 ⟨Nat.zero_le _, Nat.zero_le _⟩ (fun H locs hP hD hS => ?_)
              obtain ⟨s_108, e_108⟩ : ∃ z : RS, z = fAnyL T 300 s_3 := ⟨_, rfl⟩
              have hP : va_P D vwCl (rdW ad cd T s_108) H := by rw [e_108]; exact hP
              have hD : va_D A (rdW ad cd T s_108) := by rw [e_108]; exact hD
              exact hret H locs s_108 true _ _ hP hD hS (pr2 (by first | (simp only [fVal, fValE, c_13, if_neg c_25, if_neg c_46, if_neg c_68, if_neg c_90, ← e_3, ← e_108, fStop, if_true, if_false, Bool.false_eq_true, ↓reduceIte]; done) | (simp only [fVal, fValE, c_13, if_neg c_25, if_neg c_46, if_neg c_68, if_neg c_90, ← e_3, ← e_108, fStop, if_true, if_false, Bool.false_eq_true, ↓reduceIte]; with_reducible rfl) | (simp only [fVal, fValE, c_13, if_neg c_25, if_neg c_46, if_neg c_68, if_neg c_90, ← e_3, ← e_108, fStop, if_true, if_false, Bool.false_eq_true, ↓reduceIte]; rw [e_108]))) d_Reader_readValue_111
            · skip
              exact absurd c_90 c_68
          · skip
            have c_68 : (rKd s_3 = 1) := c_68
            refine lv_aload_n hx hb d_Reader_readValue_71 rfl (lv_at hl 0 rfl) ?_
            refine va_ldcS hx hb hown (hX.2.2.2.2.2.1 _ _ _ _ st_16) d_Reader_readValue_72 ?_
            refine hx_Vz (wr := []) (As := [.ref (adK 16)]) (rest := []) hI (c_Reader_isWordL hT s_3 (by decide) sw_16) (cw_V (C := "HeadDesk$Reader") 1 hts m_86 m_88 m_89 m_57 m_87 (by decide +kernel) ⟨by decide, by decide⟩) hX hA hP hD hS [0, 1, 2, 3, 4, 5, 6, 7] [] rfl rfl (by decide) (by decide) (by decide) (va_recv hX.1 hP (ci := 1) (q0 := 0) rfl rfl) rfl hl.1 rfl (Nat.le_of_ble_eq_true rfl) d_Reader_readValue_74 ⟨Nat.zero_le _, Nat.zero_le _⟩ (fun H locs hP hD hS => ?_)
            have hP : va_P D vwCl (rdW ad cd T s_3) H := hP
            have hD : va_D A (rdW ad cd T s_3) := hD
            refine lv_if_eq (tgt := 85) hx hb d_Reader_readValue_77 (by decide) (fun c_77 => ?_) (fun c_77 => ?_)
            · skip
              have c_77 : (fIsW T s_3 t_length) = false := bI_0 c_77
              refine lv_aload_n hx hb d_Reader_readValue_85 rfl (lv_at hl 0 rfl) ?_
              refine va_get (D := D) (ci := 1) (v := .int (rKd s_3)) (C := "HeadDesk$Reader") (T := F_Reader) (N := 11) hx hb hts a_Reader hown hX.1 hP 0 rfl rfl 5 (by decide) (hts _ m_90) (fun _ h9 => h9) rfl d_Reader_readValue_86 ?_
              refine lv_iconst (v := 1) hx hb d_Reader_readValue_89 (by decide) ?_
              refine lv_icmp_ne (tgt := 107) hx hb d_Reader_readValue_90 (by decide) (fun c_90 => ?_) (fun c_90 => ?_)
              · skip
                exact absurd c_68 c_90
              · skip
                have c_90 : (rKd s_3 = 1) := c_90
                refine lv_aload_n hx hb d_Reader_readValue_93 rfl (lv_at hl 0 rfl) ?_
                refine va_ldcS hx hb hown (hX.2.2.2.2.2.1 _ _ _ _ st_17) d_Reader_readValue_94 ?_
                refine hx_Vz (wr := []) (As := [.ref (adK 17)]) (rest := []) hI (c_Reader_isWordL hT s_3 (by decide) sw_17) (cw_V (C := "HeadDesk$Reader") 1 hts m_86 m_88 m_89 m_57 m_87 (by decide +kernel) ⟨by decide, by decide⟩) hX hA hP hD hS [0, 1, 2, 3, 4, 5, 6, 7] [] rfl rfl (by decide) (by decide) (by decide) (va_recv hX.1 hP (ci := 1) (q0 := 0) rfl rfl) rfl hl.1 rfl (Nat.le_of_ble_eq_true rfl) d_Reader_readValue_96 ⟨Nat.zero_le _, Nat.zero_le _⟩ (fun H locs hP hD hS => ?_)
                have hP : va_P D vwCl (rdW ad cd T s_3) H := hP
                have hD : va_D A (rdW ad cd T s_3) := hD
                refine lv_if_eq (tgt := 107) hx hb d_Reader_readValue_99 (by decide) (fun c_99 => ?_) (fun c_99 => ?_)
                · skip
                  have c_99 : (fIsW T s_3 t_keys) = false := bI_0 c_99
                  refine lv_aload_n hx hb d_Reader_readValue_107 rfl (lv_at hl 0 rfl) ?_
                  refine hx_Vz (wr := []) (As := []) (rest := []) hI (c_Reader_readAnything hT s_3 ) (cw_V (C := "HeadDesk$Reader") 0 hts m_149 m_151 m_152 m_57 m_150 (by decide +kernel) ⟨by decide, by decide⟩) hX hA hP hD hS [0, 1, 2, 3, 4, 5, 6, 7] [] rfl rfl (by decide) (by decide) (by decide) (va_recv hX.1 hP (ci := 1) (q0 := 0) rfl rfl) rfl hl.1 rfl (Nat.le_of_ble_eq_true rfl) d_Reader_readValue_108 ⟨Nat.zero_le _, Nat.zero_le _⟩ (fun H locs hP hD hS => ?_)
                  obtain ⟨s_108, e_108⟩ : ∃ z : RS, z = fAnyL T 300 s_3 := ⟨_, rfl⟩
                  have hP : va_P D vwCl (rdW ad cd T s_108) H := by rw [e_108]; exact hP
                  have hD : va_D A (rdW ad cd T s_108) := by rw [e_108]; exact hD
                  exact hret H locs s_108 true _ _ hP hD hS (pr2 (by first | (simp only [fVal, fValE, c_13, if_neg c_25, if_neg c_46, if_pos c_68, c_77, if_pos c_90, c_99, ← e_3, ← e_108, fStop, if_true, if_false, Bool.false_eq_true, ↓reduceIte]; done) | (simp only [fVal, fValE, c_13, if_neg c_25, if_neg c_46, if_pos c_68, c_77, if_pos c_90, c_99, ← e_3, ← e_108, fStop, if_true, if_false, Bool.false_eq_true, ↓reduceIte]; with_reducible rfl) | (simp only [fVal, fValE, c_13, if_neg c_25, if_neg c_46, if_pos c_68, c_77, if_pos c_90, c_99, ← e_3, ← e_108, fStop, if_true, if_false, Bool.false_eq_true, ↓reduceIte]; rw [e_108]))) d_Reader_readValue_111
                · skip
                  have c_99 : (fIsW T s_3 t_keys) = true := bI_1 c_99
                  refine lv_aload_n hx hb d_Reader_readValue_102 rfl (lv_at hl 0 rfl) ?_
                  refine hx_Vz (wr := []) (As := []) (rest := []) hI (c_Reader_readKeys hT s_3 ) (cw_V (C := "HeadDesk$Reader") 0 hts m_153 m_155 m_156 m_57 m_154 (by decide +kernel) ⟨by decide, by decide⟩) hX hA hP hD hS [0, 1, 2, 3, 4, 5, 6, 7] [] rfl rfl (by decide) (by decide) (by decide) (va_recv hX.1 hP (ci := 1) (q0 := 0) rfl rfl) rfl hl.1 rfl (Nat.le_of_ble_eq_true rfl) d_Reader_readValue_103 ⟨Nat.zero_le _, Nat.zero_le _⟩ (fun H locs hP hD hS => ?_)
                  obtain ⟨s_103, e_103⟩ : ∃ z : RS, z = (fKeyL T 8 s_3).2 := ⟨_, rfl⟩
                  have hP : va_P D vwCl (rdW ad cd T s_103) H := by rw [e_103]; exact hP
                  have hD : va_D A (rdW ad cd T s_103) := by rw [e_103]; exact hD
                  exact hret H locs s_103 ((fKeyL T 8 s_3).1) _ _ hP hD hS (pr2 (by first | (simp only [fVal, fValE, c_13, if_neg c_25, if_neg c_46, if_pos c_68, c_77, if_pos c_90, c_99, ← e_3, ← e_103, fStop, if_true, if_false, Bool.false_eq_true, ↓reduceIte]; done) | (simp only [fVal, fValE, c_13, if_neg c_25, if_neg c_46, if_pos c_68, c_77, if_pos c_90, c_99, ← e_3, ← e_103, fStop, if_true, if_false, Bool.false_eq_true, ↓reduceIte]; with_reducible rfl) | (simp only [fVal, fValE, c_13, if_neg c_25, if_neg c_46, if_pos c_68, c_77, if_pos c_90, c_99, ← e_3, ← e_103, fStop, if_true, if_false, Bool.false_eq_true, ↓reduceIte]; rw [e_103]))) d_Reader_readValue_106
            · skip
              have c_77 : (fIsW T s_3 t_length) = true := bI_1 c_77
              refine lv_aload_n hx hb d_Reader_readValue_80 rfl (lv_at hl 0 rfl) ?_
              refine hx_Vz (wr := []) (As := []) (rest := []) hI (c_Reader_readLength hT s_3 ) (cw_V (C := "HeadDesk$Reader") 0 hts m_157 m_159 m_160 m_57 m_158 (by decide +kernel) ⟨by decide, by decide⟩) hX hA hP hD hS [0, 1, 2, 3, 4, 5, 6, 7] [] rfl rfl (by decide) (by decide) (by decide) (va_recv hX.1 hP (ci := 1) (q0 := 0) rfl rfl) rfl hl.1 rfl (Nat.le_of_ble_eq_true rfl) d_Reader_readValue_81 ⟨Nat.zero_le _, Nat.zero_le _⟩ (fun H locs hP hD hS => ?_)
              obtain ⟨s_81, e_81⟩ : ∃ z : RS, z = (fLen T s_3).2 := ⟨_, rfl⟩
              have hP : va_P D vwCl (rdW ad cd T s_81) H := by rw [e_81]; exact hP
              have hD : va_D A (rdW ad cd T s_81) := by rw [e_81]; exact hD
              exact hret H locs s_81 ((fLen T s_3).1) _ _ hP hD hS (pr2 (by first | (simp only [fVal, fValE, c_13, if_neg c_25, if_neg c_46, if_pos c_68, c_77, ← e_3, ← e_81, fStop, if_true, if_false, Bool.false_eq_true, ↓reduceIte]; done) | (simp only [fVal, fValE, c_13, if_neg c_25, if_neg c_46, if_pos c_68, c_77, ← e_3, ← e_81, fStop, if_true, if_false, Bool.false_eq_true, ↓reduceIte]; with_reducible rfl) | (simp only [fVal, fValE, c_13, if_neg c_25, if_neg c_46, if_pos c_68, c_77, ← e_3, ← e_81, fStop, if_true, if_false, Bool.false_eq_true, ↓reduceIte]; rw [e_81]))) d_Reader_readValue_84
        · skip
          exact absurd c_46 c_25
      · skip
        have c_25 : (rKd s_3 = 0) := c_25
        refine lv_aload_n hx hb d_Reader_readValue_28 rfl (lv_at hl 0 rfl) ?_
        refine va_ldcS hx hb hown (hX.2.2.2.2.2.1 _ _ _ _ st_13) d_Reader_readValue_29 ?_
        refine hx_Vz (wr := []) (As := [.ref (adK 13)]) (rest := []) hI (c_Reader_isWordL hT s_3 (by decide) sw_13) (cw_V (C := "HeadDesk$Reader") 1 hts m_86 m_88 m_89 m_57 m_87 (by decide +kernel) ⟨by decide, by decide⟩) hX hA hP hD hS [0, 1, 2, 3, 4, 5, 6, 7] [] rfl rfl (by decide) (by decide) (by decide) (va_recv hX.1 hP (ci := 1) (q0 := 0) rfl rfl) rfl hl.1 rfl (Nat.le_of_ble_eq_true rfl) d_Reader_readValue_31 ⟨Nat.zero_le _, Nat.zero_le _⟩ (fun H locs hP hD hS => ?_)
        have hP : va_P D vwCl (rdW ad cd T s_3) H := hP
        have hD : va_D A (rdW ad cd T s_3) := hD
        refine lv_if_eq (tgt := 42) hx hb d_Reader_readValue_34 (by decide) (fun c_34 => ?_) (fun c_34 => ?_)
        · skip
          have c_34 : (fIsW T s_3 t_range) = false := bI_0 c_34
          refine lv_aload_n hx hb d_Reader_readValue_42 rfl (lv_at hl 0 rfl) ?_
          refine va_get (D := D) (ci := 1) (v := .int (rKd s_3)) (C := "HeadDesk$Reader") (T := F_Reader) (N := 11) hx hb hts a_Reader hown hX.1 hP 0 rfl rfl 5 (by decide) (hts _ m_90) (fun _ h9 => h9) rfl d_Reader_readValue_43 ?_
          refine lv_if_ne (tgt := 63) hx hb d_Reader_readValue_46 (by decide) (fun c_46 => ?_) (fun c_46 => ?_)
          · skip
            exact absurd c_25 c_46
          · skip
            have c_46 : (rKd s_3 = 0) := c_46
            refine lv_aload_n hx hb d_Reader_readValue_49 rfl (lv_at hl 0 rfl) ?_
            refine va_ldcS hx hb hown (hX.2.2.2.2.2.1 _ _ _ _ st_15) d_Reader_readValue_50 ?_
            refine hx_Vz (wr := []) (As := [.ref (adK 15)]) (rest := []) hI (c_Reader_isWordL hT s_3 (by decide) sw_15) (cw_V (C := "HeadDesk$Reader") 1 hts m_86 m_88 m_89 m_57 m_87 (by decide +kernel) ⟨by decide, by decide⟩) hX hA hP hD hS [0, 1, 2, 3, 4, 5, 6, 7] [] rfl rfl (by decide) (by decide) (by decide) (va_recv hX.1 hP (ci := 1) (q0 := 0) rfl rfl) rfl hl.1 rfl (Nat.le_of_ble_eq_true rfl) d_Reader_readValue_52 ⟨Nat.zero_le _, Nat.zero_le _⟩ (fun H locs hP hD hS => ?_)
            have hP : va_P D vwCl (rdW ad cd T s_3) H := hP
            have hD : va_D A (rdW ad cd T s_3) := hD
            refine lv_if_eq (tgt := 63) hx hb d_Reader_readValue_55 (by decide) (fun c_55 => ?_) (fun c_55 => ?_)
            · skip
              have c_55 : (fIsW T s_3 t_if_none_match) = false := bI_0 c_55
              refine lv_aload_n hx hb d_Reader_readValue_63 rfl (lv_at hl 0 rfl) ?_
              refine va_get (D := D) (ci := 1) (v := .int (rKd s_3)) (C := "HeadDesk$Reader") (T := F_Reader) (N := 11) hx hb hts a_Reader hown hX.1 hP 0 rfl rfl 5 (by decide) (hts _ m_90) (fun _ h9 => h9) rfl d_Reader_readValue_64 ?_
              refine lv_iconst (v := 1) hx hb d_Reader_readValue_67 (by decide) ?_
              refine lv_icmp_ne (tgt := 85) hx hb d_Reader_readValue_68 (by decide) (fun c_68 => ?_) (fun c_68 => ?_)
              · skip
                have c_68 : ¬ (rKd s_3 = 1) := c_68
                refine lv_aload_n hx hb d_Reader_readValue_85 rfl (lv_at hl 0 rfl) ?_
                refine va_get (D := D) (ci := 1) (v := .int (rKd s_3)) (C := "HeadDesk$Reader") (T := F_Reader) (N := 11) hx hb hts a_Reader hown hX.1 hP 0 rfl rfl 5 (by decide) (hts _ m_90) (fun _ h9 => h9) rfl d_Reader_readValue_86 ?_
                refine lv_iconst (v := 1) hx hb d_Reader_readValue_89 (by decide) ?_
                refine lv_icmp_ne (tgt := 107) hx hb d_Reader_readValue_90 (by decide) (fun c_90 => ?_) (fun c_90 => ?_)
                · skip
                  have c_90 : ¬ (rKd s_3 = 1) := c_90
                  refine lv_aload_n hx hb d_Reader_readValue_107 rfl (lv_at hl 0 rfl) ?_
                  refine hx_Vz (wr := []) (As := []) (rest := []) hI (c_Reader_readAnything hT s_3 ) (cw_V (C := "HeadDesk$Reader") 0 hts m_149 m_151 m_152 m_57 m_150 (by decide +kernel) ⟨by decide, by decide⟩) hX hA hP hD hS [0, 1, 2, 3, 4, 5, 6, 7] [] rfl rfl (by decide) (by decide) (by decide) (va_recv hX.1 hP (ci := 1) (q0 := 0) rfl rfl) rfl hl.1 rfl (Nat.le_of_ble_eq_true rfl) d_Reader_readValue_108 ⟨Nat.zero_le _, Nat.zero_le _⟩ (fun H locs hP hD hS => ?_)
                  obtain ⟨s_108, e_108⟩ : ∃ z : RS, z = fAnyL T 300 s_3 := ⟨_, rfl⟩
                  have hP : va_P D vwCl (rdW ad cd T s_108) H := by rw [e_108]; exact hP
                  have hD : va_D A (rdW ad cd T s_108) := by rw [e_108]; exact hD
                  exact hret H locs s_108 true _ _ hP hD hS (pr2 (by first | (simp only [fVal, fValE, c_13, if_pos c_25, c_34, if_pos c_46, c_55, if_neg c_68, if_neg c_90, ← e_3, ← e_108, fStop, if_true, if_false, Bool.false_eq_true, ↓reduceIte]; done) | (simp only [fVal, fValE, c_13, if_pos c_25, c_34, if_pos c_46, c_55, if_neg c_68, if_neg c_90, ← e_3, ← e_108, fStop, if_true, if_false, Bool.false_eq_true, ↓reduceIte]; with_reducible rfl) | (simp only [fVal, fValE, c_13, if_pos c_25, c_34, if_pos c_46, c_55, if_neg c_68, if_neg c_90, ← e_3, ← e_108, fStop, if_true, if_false, Bool.false_eq_true, ↓reduceIte]; rw [e_108]))) d_Reader_readValue_111
                · skip
                  exact absurd (c_46.symm.trans c_90) (by decide)
              · skip
                exact absurd (c_46.symm.trans c_68) (by decide)
            · skip
              have c_55 : (fIsW T s_3 t_if_none_match) = true := bI_1 c_55
              refine lv_aload_n hx hb d_Reader_readValue_58 rfl (lv_at hl 0 rfl) ?_
              refine hx_Vz (wr := []) (As := []) (rest := []) hI (c_Reader_readVersions hT s_3 ) (cw_V (C := "HeadDesk$Reader") 0 hts m_161 m_163 m_164 m_57 m_162 (by decide +kernel) ⟨by decide, by decide⟩) hX hA hP hD hS [0, 1, 2, 3, 4, 5, 6, 7] [] rfl rfl (by decide) (by decide) (by decide) (va_recv hX.1 hP (ci := 1) (q0 := 0) rfl rfl) rfl hl.1 rfl (Nat.le_of_ble_eq_true rfl) d_Reader_readValue_59 ⟨Nat.zero_le _, Nat.zero_le _⟩ (fun H locs hP hD hS => ?_)
              obtain ⟨s_59, e_59⟩ : ∃ z : RS, z = (fVer T s_3).2 := ⟨_, rfl⟩
              have hP : va_P D vwCl (rdW ad cd T s_59) H := by rw [e_59]; exact hP
              have hD : va_D A (rdW ad cd T s_59) := by rw [e_59]; exact hD
              exact hret H locs s_59 ((fVer T s_3).1) _ _ hP hD hS (pr2 (by first | (simp only [fVal, fValE, c_13, if_pos c_25, c_34, if_pos c_46, c_55, ← e_3, ← e_59, fStop, if_true, if_false, Bool.false_eq_true, ↓reduceIte]; done) | (simp only [fVal, fValE, c_13, if_pos c_25, c_34, if_pos c_46, c_55, ← e_3, ← e_59, fStop, if_true, if_false, Bool.false_eq_true, ↓reduceIte]; with_reducible rfl) | (simp only [fVal, fValE, c_13, if_pos c_25, c_34, if_pos c_46, c_55, ← e_3, ← e_59, fStop, if_true, if_false, Bool.false_eq_true, ↓reduceIte]; rw [e_59]))) d_Reader_readValue_62
        · skip
          have c_34 : (fIsW T s_3 t_range) = true := bI_1 c_34
          refine lv_aload_n hx hb d_Reader_readValue_37 rfl (lv_at hl 0 rfl) ?_
          refine hx_Vz (wr := []) (As := []) (rest := []) hI (c_Reader_readRange hT s_3 ) (cw_V (C := "HeadDesk$Reader") 0 hts m_165 m_167 m_168 m_57 m_166 (by decide +kernel) ⟨by decide, by decide⟩) hX hA hP hD hS [0, 1, 2, 3, 4, 5, 6, 7] [] rfl rfl (by decide) (by decide) (by decide) (va_recv hX.1 hP (ci := 1) (q0 := 0) rfl rfl) rfl hl.1 rfl (Nat.le_of_ble_eq_true rfl) d_Reader_readValue_38 ⟨Nat.zero_le _, Nat.zero_le _⟩ (fun H locs hP hD hS => ?_)
          obtain ⟨s_38, e_38⟩ : ∃ z : RS, z = (fRng T s_3 t_bytes).2 := ⟨_, rfl⟩
          have hP : va_P D vwCl (rdW ad cd T s_38) H := by rw [e_38]; exact hP
          have hD : va_D A (rdW ad cd T s_38) := by rw [e_38]; exact hD
          exact hret H locs s_38 ((fRng T s_3 t_bytes).1) _ _ hP hD hS (pr2 (by first | (simp only [fVal, fValE, c_13, if_pos c_25, c_34, ← e_3, ← e_38, fStop, if_true, if_false, Bool.false_eq_true, ↓reduceIte]; done) | (simp only [fVal, fValE, c_13, if_pos c_25, c_34, ← e_3, ← e_38, fStop, if_true, if_false, Bool.false_eq_true, ↓reduceIte]; with_reducible rfl) | (simp only [fVal, fValE, c_13, if_pos c_25, c_34, ← e_3, ← e_38, fStop, if_true, if_false, Bool.false_eq_true, ↓reduceIte]; rw [e_38]))) d_Reader_readValue_41
    · skip
      have c_13 : (fIsW T s_3 t_cache_control) = true := bI_1 c_13
      refine lv_aload_n hx hb d_Reader_readValue_16 rfl (lv_at hl 0 rfl) ?_
      refine hx_Vz (wr := []) (As := []) (rest := []) hI (c_Reader_readList hT s_3 ) (cw_V (C := "HeadDesk$Reader") 0 hts m_169 m_171 m_172 m_57 m_170 (by decide +kernel) ⟨by decide, by decide⟩) hX hA hP hD hS [0, 1, 2, 3, 4, 5, 6, 7] [] rfl rfl (by decide) (by decide) (by decide) (va_recv hX.1 hP (ci := 1) (q0 := 0) rfl rfl) rfl hl.1 rfl (Nat.le_of_ble_eq_true rfl) d_Reader_readValue_17 ⟨Nat.zero_le _, Nat.zero_le _⟩ (fun H locs hP hD hS => ?_)
      obtain ⟨s_17, e_17⟩ : ∃ z : RS, z = (fLisL T 300 s_3).2 := ⟨_, rfl⟩
      have hP : va_P D vwCl (rdW ad cd T s_17) H := by rw [e_17]; exact hP
      have hD : va_D A (rdW ad cd T s_17) := by rw [e_17]; exact hD
      exact hret H locs s_17 ((fLisL T 300 s_3).1) _ _ hP hD hS (pr2 (by first | (simp only [fVal, fValE, c_13, ← e_3, ← e_17, fStop, if_true, if_false, Bool.false_eq_true, ↓reduceIte]; done) | (simp only [fVal, fValE, c_13, ← e_3, ← e_17, fStop, if_true, if_false, Bool.false_eq_true, ↓reduceIte]; with_reducible rfl) | (simp only [fVal, fValE, c_13, ← e_3, ← e_17, fStop, if_true, if_false, Bool.false_eq_true, ↓reduceIte]; rw [e_17]))) d_Reader_readValue_20
  rw [hH, hlo] at goal
  exact goal
end
section
variable {l : Launch} {D : va_G} {ad : Nat → Nat} {cd : Nat → ClassId} {adK adV : Nat → Nat} {tF : Nat} {T : TX} {tys : List (ClassId × FieldType)}

set_option maxHeartbeats 4000000 in
set_option maxRecDepth 100000 in
theorem c_Reader_readText (hT : T.2 ≤ 300) (st : RS) (x : Int32) : hx_Mz l D (tyH cd) adK adV tF (rdW ad cd T) y_Reader_readText w_Reader_readText (rmD 9) [.ref (ad 0), .int x] st ((fTxt T st x).1) ((fTxt T st x).2) := by
  refine hx_Mz.of (cc := b_Reader_readText) (maxL := 3) (by decide) rfl (Nat.le_of_ble_eq_true rfl) ?_
  intro p e s m below meth c A Q ls hI hX hA hP hD hS hl hret
  obtain ⟨hx, hb, hml, hown, hts⟩ := id hI
  have hts : ∀ w ∈ aw, w.before ([.ref (ad 0), .int x] : List Value).toArray s = true := fun w h => hts w (List.mem_cons_of_mem _ h)
  have hown : s.vm.findClass "HeadDesk$Reader" = some m.cls := hown
  have hI : hx_In p s m ([.ref (ad 0), .int x] : List Value).toArray c b_Reader_readText 3 "HeadDesk$Reader" aw := ⟨hx, hb, hml, hown, hts⟩
  have hP : va_P D vwCl (rdW ad cd T st) s.heap := hP
  obtain ⟨H, hH⟩ : ∃ H, H = s.heap := ⟨_, rfl⟩
  obtain ⟨locs, hlo⟩ : ∃ locs : List Loc, locs = [] := ⟨_, rfl⟩
  have hS : va_S A s.heap H locs := by rw [hH, hlo]; exact hS
  have hP : va_P D vwCl (rdW ad cd T st) H := by rw [hH]; exact hP
  have hl : lv_has ls 3 [(0, .ref (ad 0)), (1, .int x)] := hl
  have goal : W p l e (rmD 9) s m ([.ref (ad 0), .int x] : List Value).toArray below meth c H locs 0 0 Q (F0 m 0 ls []) := by
    refine lv_aload_n hx hb d_Reader_readText_0 rfl (lv_at hl 0 rfl) ?_
    refine lv_iload_n hx hb d_Reader_readText_1 rfl (lv_at hl 1 rfl) ?_
    refine va_put (D := D) (ci := 1) (v := .int x) (ty := .int) (C := "HeadDesk$Reader") (T := F_Reader) (N := 11) hx hb hts a_Reader t_Reader k_Reader n_Reader hown hX.1 hP hD hS 0 rfl rfl 5 (by decide) (hts _ m_90) (fun _ h9 => h9) rfl (by decide +kernel) rfl rfl (Nat.le_of_ble_eq_true rfl) d_Reader_readText_2 (fun H locs hP hD hS => ?_)
    have hP : va_P D vwCl (rdW ad cd T (sKd st x)) H := hP
    have hD : va_D A (rdW ad cd T (sKd st x)) := hD
    refine lv_aload_n hx hb d_Reader_readText_5 rfl (lv_at hl 0 rfl) ?_
    refine lv_iconst (v := 0) hx hb d_Reader_readText_6 (by decide) ?_
    refine va_put (D := D) (ci := 1) (v := .int 0) (ty := .int) (C := "HeadDesk$Reader") (T := F_Reader) (N := 11) hx hb hts a_Reader t_Reader k_Reader n_Reader hown hX.1 hP hD hS 0 rfl rfl 4 (by decide) (hts _ m_71) (fun _ h9 => h9) rfl (by decide +kernel) rfl rfl (Nat.le_of_ble_eq_true rfl) d_Reader_readText_7 (fun H locs hP hD hS => ?_)
    have hP : va_P D vwCl (rdW ad cd T (sNm (sKd st x) 0)) H := hP
    have hD : va_D A (rdW ad cd T (sNm (sKd st x) 0)) := hD
    refine lv_aload_n hx hb d_Reader_readText_10 rfl (lv_at hl 0 rfl) ?_
    refine lv_iconst (v := 0) hx hb d_Reader_readText_11 (by decide) ?_
    refine va_put (D := D) (ci := 1) (v := .int 0) (ty := .int) (C := "HeadDesk$Reader") (T := F_Reader) (N := 11) hx hb hts a_Reader t_Reader k_Reader n_Reader hown hX.1 hP hD hS 0 rfl rfl 6 (by decide) (hts _ m_47) (fun _ h9 => h9) rfl (by decide +kernel) rfl rfl (Nat.le_of_ble_eq_true rfl) d_Reader_readText_12 (fun H locs hP hD hS => ?_)
    have hP : va_P D vwCl (rdW ad cd T (sPl (sNm (sKd st x) 0) 0)) H := hP
    have hD : va_D A (rdW ad cd T (sPl (sNm (sKd st x) 0) 0)) := hD
    refine lv_aload_n hx hb d_Reader_readText_15 rfl (lv_at hl 0 rfl) ?_
    refine lv_iconst (v := (-1)) hx hb d_Reader_readText_16 (by decide) ?_
    refine va_put (D := D) (ci := 1) (v := .int (-1)) (ty := .int) (C := "HeadDesk$Reader") (T := F_Reader) (N := 11) hx hb hts a_Reader t_Reader k_Reader n_Reader hown hX.1 hP hD hS 0 rfl rfl 7 (by decide) (hts _ m_52) (fun _ h9 => h9) rfl (by decide +kernel) rfl rfl (Nat.le_of_ble_eq_true rfl) d_Reader_readText_17 (fun H locs hP hD hS => ?_)
    have hP : va_P D vwCl (rdW ad cd T (sSk (sPl (sNm (sKd st x) 0) 0) (-1))) H := hP
    have hD : va_D A (rdW ad cd T (sSk (sPl (sNm (sKd st x) 0) 0) (-1))) := hD
    refine lv_aload_n hx hb d_Reader_readText_20 rfl (lv_at hl 0 rfl) ?_
    refine va_get (D := D) (ci := 1) (v := .ref (ad 5)) (C := "HeadDesk$Reader") (T := F_Reader) (N := 11) hx hb hts a_Reader hown hX.1 hP 0 rfl rfl 3 (by decide) (hts _ m_91) (fun _ h9 => h9) rfl d_Reader_readText_21 ?_
    refine hx_Vv (wr := [(ad 0, .inr (1, [.ref (ad 1), .ref (ad 3), .ref (ad 4), .ref (ad 5), .int (0), .int (x), .int (0), .int ((-1)), .int (rNb st), .int (rWs st), .int (rWe st)])), (ad 1, .inr (2, [.ref (ad 2), .int (T.2)])), (ad 2, .inl (cd 0, 300, .inl T.1)), (ad 3, .inl (cd 1, 100, .inl (rNs st))), (ad 4, .inl (cd 2, 100, .inl (rNe st)))]) (As := []) (rest := []) hI (c_Head_clear (ah := ad 5) (av := ad 6) (ar := ad 7) (cv := cd 3) (cr := cd 4) (tv := 3) (tr := 4) rfl rfl (rVs st, rVr st) ) (cw_V (C := "HeadDesk$Head") 0 hts m_173 m_175 m_176 m_40 m_174 (by decide +kernel) ⟨by decide, by decide⟩) hX hA hP hD hS [5, 6, 7] [0, 1, 2, 3, 4] rfl rfl (by decide) (by decide) (by decide) (va_recv hX.1 hP (ci := 0) (q0 := 5) rfl rfl) rfl hl.1 rfl (Nat.le_of_ble_eq_true rfl) d_Reader_readText_24 ⟨Nat.zero_le _, Nat.zero_le _⟩ (fun H locs hP hD hS => ?_)
    obtain ⟨s_24, e_24⟩ : ∃ z : RS, z = sVs (sSk (sPl (sNm (sKd st x) 0) 0) (-1)) (va_cpy at0 (rVs st) 0 0 18) := ⟨_, rfl⟩
    have hP : va_P D vwCl (rdW ad cd T s_24) H := by rw [e_24]; exact hP.sub [0, 1, 2, 3, 4, 5, 6, 7] rfl
    have hD : va_D A (rdW ad cd T s_24) := by rw [e_24]; exact hD.sub [0, 1, 2, 3, 4, 5, 6, 7] (by decide) rfl
    refine lv_aload_n hx hb d_Reader_readText_27 rfl (lv_at hl 0 rfl) ?_
    refine hx_Vz (wr := []) (As := []) (rest := []) hI (c_Reader_readFirstLine hT s_24 ) (cw_V (C := "HeadDesk$Reader") 0 hts m_177 m_179 m_180 m_57 m_178 (by decide +kernel) ⟨by decide, by decide⟩) hX hA hP hD hS [0, 1, 2, 3, 4, 5, 6, 7] [] rfl rfl (by decide) (by decide) (by decide) (va_recv hX.1 hP (ci := 1) (q0 := 0) rfl rfl) rfl hl.1 rfl (Nat.le_of_ble_eq_true rfl) d_Reader_readText_28 ⟨Nat.zero_le _, Nat.zero_le _⟩ (fun H locs hP hD hS => ?_)
    obtain ⟨s_28, e_28⟩ : ∃ z : RS, z = (fFst T s_24).2 := ⟨_, rfl⟩
    have hP : va_P D vwCl (rdW ad cd T s_28) H := by rw [e_28]; exact hP
    have hD : va_D A (rdW ad cd T s_28) := by rw [e_28]; exact hD
    refine lv_if_ne (tgt := 36) hx hb d_Reader_readText_31 (by decide) (fun c_31 => ?_) (fun c_31 => ?_)
    · skip
      have c_31 : ((fFst T s_24).1) = true := bI_1 c_31
      refine lv_iconst (v := 0) hx hb d_Reader_readText_36 (by decide) ?_
      refine lv_istore_n (lv' := [(2, .int 0), (0, .ref (ad 0)), (1, .int x)]) hx hb d_Reader_readText_37 rfl hl (by decide) rfl (fun ls hl => ?_)
      have loop38 : ∀ (k : Nat) (j : Nat) (s1 : RS) (H : Heap) (locs : List Loc) (ls : Array Slot), j + k = 101 → 0 ≤ rNm s1 → fTxt T st x = fTxtL T k s1 → va_P D vwCl (rdW ad cd T s1) H → va_D A (rdW ad cd T s1) → va_S A s.heap H locs → lv_has ls 3 [(2, .int (nI j)), (0, .ref (ad 0)), (1, .int x)] → W p l e (rmD 9) s m ([.ref (ad 0), .int x] : List Value).toArray below meth c H locs 0 0 Q (F0 m 38 ls []) := by
        intro k
        induction k with
        | zero =>
          intro j s1 H locs ls hj hN hF hP hD hS hl
          refine lv_iload_n hx hb d_Reader_readText_38 rfl (lv_at hl 0 rfl) ?_
          refine lv_bipush (v := 100) hx hb d_Reader_readText_39 (by decide) ?_
          refine lv_icmp_gt (tgt := 109) hx hb d_Reader_readText_41 (by decide) (fun c_41 => ?_) (fun c_41 => ?_)
          · skip
            have c_41 : (100 < nI j) := c_41
            refine lv_aload_n hx hb d_Reader_readText_109 rfl (lv_at hl 1 rfl) ?_
            refine lv_aload_n hx hb d_Reader_readText_110 rfl (lv_at hl 1 rfl) ?_
            refine va_get (D := D) (ci := 1) (v := .int (rPl s1)) (C := "HeadDesk$Reader") (T := F_Reader) (N := 11) hx hb hts a_Reader hown hX.1 hP 0 rfl rfl 6 (by decide) (hts _ m_47) (fun _ h9 => h9) rfl d_Reader_readText_111 ?_
            refine hx_Vz (wr := []) (As := [.int (rPl s1)]) (rest := []) hI (c_Reader_stop hT s1 (rPl s1)) (cw_V (C := "HeadDesk$Reader") 1 hts m_58 m_60 m_61 m_57 m_59 (by decide +kernel) ⟨by decide, by decide⟩) hX hA hP hD hS [0, 1, 2, 3, 4, 5, 6, 7] [] rfl rfl (by decide) (by decide) (by decide) (va_recv hX.1 hP (ci := 1) (q0 := 0) rfl rfl) rfl hl.1 rfl (Nat.le_of_ble_eq_true rfl) d_Reader_readText_114 ⟨Nat.zero_le _, Nat.zero_le _⟩ (fun H locs hP hD hS => ?_)
            obtain ⟨s_114, e_114⟩ : ∃ z : RS, z = sSk s1 (rPl s1) := ⟨_, rfl⟩
            have hP : va_P D vwCl (rdW ad cd T s_114) H := by rw [e_114]; exact hP
            have hD : va_D A (rdW ad cd T s_114) := by rw [e_114]; exact hD
            exact hret H locs s_114 false _ _ hP hD hS (pr2 (by first | (rw [hF]; ((try simp only [fTxtL]) <;> simp only [fTxtL, fEnd, if_pos c_41, ← e_114, fStop, if_true, if_false, Bool.false_eq_true, ↓reduceIte]); done) | (rw [hF]; ((try simp only [fTxtL]) <;> simp only [fTxtL, fEnd, if_pos c_41, ← e_114, fStop, if_true, if_false, Bool.false_eq_true, ↓reduceIte]); with_reducible rfl) | (rw [hF]; ((try simp only [fTxtL]) <;> simp only [fTxtL, fEnd, if_pos c_41, ← e_114, fStop, if_true, if_false, Bool.false_eq_true, ↓reduceIte]); rw [e_114]))) d_Reader_readText_117
          · skip
            exact absurd (nI_tyes (N := 100) rfl (by omega) (by omega)) c_41
        | succ k ih =>
          intro j s1 H locs ls hj hN hF hP hD hS hl
          refine lv_iload_n hx hb d_Reader_readText_38 rfl (lv_at hl 0 rfl) ?_
          refine lv_bipush (v := 100) hx hb d_Reader_readText_39 (by decide) ?_
          refine lv_icmp_gt (tgt := 109) hx hb d_Reader_readText_41 (by decide) (fun c_41 => ?_) (fun c_41 => ?_)
          · skip
            exact absurd c_41 (nI_tno (N := 100) rfl (by omega) (by omega))
          · skip
            have c_41 : ¬ (100 < nI j) := c_41
            refine lv_aload_n hx hb d_Reader_readText_44 rfl (lv_at hl 1 rfl) ?_
            refine lv_bipush (v := 10) hx hb d_Reader_readText_45 (by decide) ?_
            refine hx_Vz (wr := []) (As := [.int 10]) (rest := []) hI (c_Reader_skip hT s1 10) (cw_V (C := "HeadDesk$Reader") 1 hts m_100 m_102 m_103 m_57 m_101 (by decide +kernel) ⟨by decide, by decide⟩) hX hA hP hD hS [0, 1, 2, 3, 4, 5, 6, 7] [] rfl rfl (by decide) (by decide) (by decide) (va_recv hX.1 hP (ci := 1) (q0 := 0) rfl rfl) rfl hl.1 rfl (Nat.le_of_ble_eq_true rfl) d_Reader_readText_47 ⟨Nat.zero_le _, Nat.zero_le _⟩ (fun H locs hP hD hS => ?_)
            obtain ⟨s_47, e_47⟩ : ∃ z : RS, z = (fSkip T s1 10).2 := ⟨_, rfl⟩
            have hP : va_P D vwCl (rdW ad cd T s_47) H := by rw [e_47]; exact hP
            have hD : va_D A (rdW ad cd T s_47) := by rw [e_47]; exact hD
            refine lv_if_eq (tgt := 78) hx hb d_Reader_readText_50 (by decide) (fun c_50 => ?_) (fun c_50 => ?_)
            · skip
              have c_50 : ((fSkip T s1 10).1) = false := bI_0 c_50
              refine lv_aload_n hx hb d_Reader_readText_78 rfl (lv_at hl 1 rfl) ?_
              refine hx_Vz (wr := []) (As := []) (rest := []) hI (c_Reader_readName hT s_47 (by rw [e_47, nm_skip]; exact hN)) (cw_V (C := "HeadDesk$Reader") 0 hts m_181 m_183 m_184 m_57 m_182 (by decide +kernel) ⟨by decide, by decide⟩) hX hA hP hD hS [0, 1, 2, 3, 4, 5, 6, 7] [] rfl rfl (by decide) (by decide) (by decide) (va_recv hX.1 hP (ci := 1) (q0 := 0) rfl rfl) rfl hl.1 rfl (Nat.le_of_ble_eq_true rfl) d_Reader_readText_79 ⟨Nat.zero_le _, Nat.zero_le _⟩ (fun H locs hP hD hS => ?_)
              obtain ⟨s_79, e_79⟩ : ∃ z : RS, z = (fNam T s_47).2 := ⟨_, rfl⟩
              have hP : va_P D vwCl (rdW ad cd T s_79) H := by rw [e_79]; exact hP
              have hD : va_D A (rdW ad cd T s_79) := by rw [e_79]; exact hD
              refine lv_if_eq (tgt := 101) hx hb d_Reader_readText_82 (by decide) (fun c_82 => ?_) (fun c_82 => ?_)
              · skip
                have c_82 : ((fNam T s_47).1) = false := bI_0 c_82
                refine lv_iconst (v := 0) hx hb d_Reader_readText_101 (by decide) ?_
                exact hret H locs s_79 false _ _ hP hD hS (pr2 (by first | (rw [hF]; ((try simp only [fTxtL]) <;> simp only [fTxtL, fEnd, if_neg c_41, c_50, c_82, bnd_f c_50, bnd_f c_82, ← e_47, ← e_79, fStop, if_true, if_false, Bool.false_eq_true, ↓reduceIte]); done) | (rw [hF]; ((try simp only [fTxtL]) <;> simp only [fTxtL, fEnd, if_neg c_41, c_50, c_82, bnd_f c_50, bnd_f c_82, ← e_47, ← e_79, fStop, if_true, if_false, Bool.false_eq_true, ↓reduceIte]); with_reducible rfl) | (rw [hF]; ((try simp only [fTxtL]) <;> simp only [fTxtL, fEnd, if_neg c_41, c_50, c_82, bnd_f c_50, bnd_f c_82, ← e_47, ← e_79, fStop, if_true, if_false, Bool.false_eq_true, ↓reduceIte]); rw [e_79]))) d_Reader_readText_102
              · skip
                have c_82 : ((fNam T s_47).1) = true := bI_1 c_82
                refine lv_aload_n hx hb d_Reader_readText_85 rfl (lv_at hl 1 rfl) ?_
                refine hx_Vz (wr := []) (As := []) (rest := []) hI (c_Reader_readValue hT s_79 ) (cw_V (C := "HeadDesk$Reader") 0 hts m_185 m_187 m_188 m_57 m_186 (by decide +kernel) ⟨by decide, by decide⟩) hX hA hP hD hS [0, 1, 2, 3, 4, 5, 6, 7] [] rfl rfl (by decide) (by decide) (by decide) (va_recv hX.1 hP (ci := 1) (q0 := 0) rfl rfl) rfl hl.1 rfl (Nat.le_of_ble_eq_true rfl) d_Reader_readText_86 ⟨Nat.zero_le _, Nat.zero_le _⟩ (fun H locs hP hD hS => ?_)
                obtain ⟨s_86, e_86⟩ : ∃ z : RS, z = (fVal T s_79).2 := ⟨_, rfl⟩
                have hP : va_P D vwCl (rdW ad cd T s_86) H := by rw [e_86]; exact hP
                have hD : va_D A (rdW ad cd T s_86) := by rw [e_86]; exact hD
                refine lv_if_eq (tgt := 101) hx hb d_Reader_readText_89 (by decide) (fun c_89 => ?_) (fun c_89 => ?_)
                · skip
                  have c_89 : ((fVal T s_79).1) = false := bI_0 c_89
                  refine lv_iconst (v := 0) hx hb d_Reader_readText_101 (by decide) ?_
                  exact hret H locs s_86 false _ _ hP hD hS (pr2 (by first | (rw [hF]; ((try simp only [fTxtL]) <;> simp only [fTxtL, fEnd, if_neg c_41, c_50, c_82, c_89, bnd_f c_50, bnd_t c_82, bnd_f c_89, ← e_47, ← e_79, ← e_86, fStop, if_true, if_false, Bool.false_eq_true, ↓reduceIte]); done) | (rw [hF]; ((try simp only [fTxtL]) <;> simp only [fTxtL, fEnd, if_neg c_41, c_50, c_82, c_89, bnd_f c_50, bnd_t c_82, bnd_f c_89, ← e_47, ← e_79, ← e_86, fStop, if_true, if_false, Bool.false_eq_true, ↓reduceIte]); with_reducible rfl) | (rw [hF]; ((try simp only [fTxtL]) <;> simp only [fTxtL, fEnd, if_neg c_41, c_50, c_82, c_89, bnd_f c_50, bnd_t c_82, bnd_f c_89, ← e_47, ← e_79, ← e_86, fStop, if_true, if_false, Bool.false_eq_true, ↓reduceIte]); rw [e_86]))) d_Reader_readText_102
                · skip
                  have c_89 : ((fVal T s_79).1) = true := bI_1 c_89
                  refine lv_aload_n hx hb d_Reader_readText_92 rfl (lv_at hl 1 rfl) ?_
                  refine lv_bipush (v := 10) hx hb d_Reader_readText_93 (by decide) ?_
                  refine hx_Vz (wr := []) (As := [.int 10]) (rest := []) hI (c_Reader_take hT s_86 10) (cw_V (C := "HeadDesk$Reader") 1 hts m_112 m_114 m_115 m_57 m_113 (by decide +kernel) ⟨by decide, by decide⟩) hX hA hP hD hS [0, 1, 2, 3, 4, 5, 6, 7] [] rfl rfl (by decide) (by decide) (by decide) (va_recv hX.1 hP (ci := 1) (q0 := 0) rfl rfl) rfl hl.1 rfl (Nat.le_of_ble_eq_true rfl) d_Reader_readText_95 ⟨Nat.zero_le _, Nat.zero_le _⟩ (fun H locs hP hD hS => ?_)
                  obtain ⟨s_95, e_95⟩ : ∃ z : RS, z = (fTake T s_86 10).2 := ⟨_, rfl⟩
                  have hP : va_P D vwCl (rdW ad cd T s_95) H := by rw [e_95]; exact hP
                  have hD : va_D A (rdW ad cd T s_95) := by rw [e_95]; exact hD
                  refine lv_if_ne (tgt := 103) hx hb d_Reader_readText_98 (by decide) (fun c_98 => ?_) (fun c_98 => ?_)
                  · skip
                    have c_98 : ((fTake T s_86 10).1) = true := bI_1 c_98
                    refine lv_iinc (v := nI (j + 1)) (lv' := [(2, .int (nI (j + 1))), (0, .ref (ad 0)), (1, .int x)]) hx hb d_Reader_readText_103 hl (k := 0) rfl (by rw [nI_succ]; rfl) (by decide) rfl (fun ls hl => ?_)
                    refine lv_goto (tgt := 38) hx hb d_Reader_readText_106 (by decide) ?_
                    exact ih (j + 1) s_95 H locs ls (by omega) (by rw [e_95, nm_take, e_86, nm_val, e_79]; exact nm_nam T _ (by rw [e_47, nm_skip]; exact hN)) (by first | (rw [hF]; ((try simp only [fTxtL]) <;> simp only [fTxtL, fEnd, if_neg c_41, c_50, c_82, c_89, c_98, bnd_f c_50, bnd_t c_82, bnd_t c_89, bnd_t c_98, ← e_47, ← e_79, ← e_86, ← e_95, fStop, if_true, if_false, Bool.false_eq_true, ↓reduceIte]); done) | (rw [hF]; ((try simp only [fTxtL]) <;> simp only [fTxtL, fEnd, if_neg c_41, c_50, c_82, c_89, c_98, bnd_f c_50, bnd_t c_82, bnd_t c_89, bnd_t c_98, ← e_47, ← e_79, ← e_86, ← e_95, fStop, if_true, if_false, Bool.false_eq_true, ↓reduceIte]); with_reducible rfl) | (rw [hF]; ((try simp only [fTxtL]) <;> simp only [fTxtL, fEnd, if_neg c_41, c_50, c_82, c_89, c_98, bnd_f c_50, bnd_t c_82, bnd_t c_89, bnd_t c_98, ← e_47, ← e_79, ← e_86, ← e_95, fStop, if_true, if_false, Bool.false_eq_true, ↓reduceIte]); rw [e_95])) hP hD hS (lv_sub hl [0, 1, 2] rfl)
                  · skip
                    have c_98 : ((fTake T s_86 10).1) = false := bI_0 c_98
                    refine lv_iconst (v := 0) hx hb d_Reader_readText_101 (by decide) ?_
                    exact hret H locs s_95 false _ _ hP hD hS (pr2 (by first | (rw [hF]; ((try simp only [fTxtL]) <;> simp only [fTxtL, fEnd, if_neg c_41, c_50, c_82, c_89, c_98, bnd_f c_50, bnd_t c_82, bnd_t c_89, bnd_f c_98, ← e_47, ← e_79, ← e_86, ← e_95, fStop, if_true, if_false, Bool.false_eq_true, ↓reduceIte]); done) | (rw [hF]; ((try simp only [fTxtL]) <;> simp only [fTxtL, fEnd, if_neg c_41, c_50, c_82, c_89, c_98, bnd_f c_50, bnd_t c_82, bnd_t c_89, bnd_f c_98, ← e_47, ← e_79, ← e_86, ← e_95, fStop, if_true, if_false, Bool.false_eq_true, ↓reduceIte]); with_reducible rfl) | (rw [hF]; ((try simp only [fTxtL]) <;> simp only [fTxtL, fEnd, if_neg c_41, c_50, c_82, c_89, c_98, bnd_f c_50, bnd_t c_82, bnd_t c_89, bnd_f c_98, ← e_47, ← e_79, ← e_86, ← e_95, fStop, if_true, if_false, Bool.false_eq_true, ↓reduceIte]); rw [e_95]))) d_Reader_readText_102
            · skip
              have c_50 : ((fSkip T s1 10).1) = true := bI_1 c_50
              refine lv_aload_n hx hb d_Reader_readText_53 rfl (lv_at hl 1 rfl) ?_
              refine hx_Vi (wr := []) (As := []) (rest := []) hI (c_Reader_mark hT s_47 ) (cw_V (C := "HeadDesk$Reader") 0 hts m_53 m_55 m_56 m_57 m_54 (by decide +kernel) ⟨by decide, by decide⟩) hX hA hP hD hS [0, 1, 2, 3, 4, 5, 6, 7] [] rfl rfl (by decide) (by decide) (by decide) (va_recv hX.1 hP (ci := 1) (q0 := 0) rfl rfl) rfl hl.1 rfl (Nat.le_of_ble_eq_true rfl) d_Reader_readText_54 ⟨Nat.zero_le _, Nat.zero_le _⟩ (fun H locs hP hD hS => ?_)
              have hP : va_P D vwCl (rdW ad cd T s_47) H := hP
              have hD : va_D A (rdW ad cd T s_47) := hD
              refine lv_iconst (v := (-1)) hx hb d_Reader_readText_57 (by decide) ?_
              refine lv_icmp_eq (tgt := 72) hx hb d_Reader_readText_58 (by decide) (fun c_58 => ?_) (fun c_58 => ?_)
              · skip
                have c_58 : (fMark T s_47 = (-1)) := c_58
                refine lv_iconst (v := 1) hx hb d_Reader_readText_72 (by decide) ?_
                refine lv_goto (tgt := 77) hx hb d_Reader_readText_73 (by decide) ?_
                exact hret H locs s_47 true _ _ hP hD hS (pr2 (by first | (rw [hF]; ((try simp only [fTxtL]) <;> simp only [fTxtL, fEnd, if_neg c_41, c_50, if_pos c_58, bnd_t c_50, ← e_47, fStop, if_true, if_false, Bool.false_eq_true, ↓reduceIte]); done) | (rw [hF]; ((try simp only [fTxtL]) <;> simp only [fTxtL, fEnd, if_neg c_41, c_50, if_pos c_58, bnd_t c_50, ← e_47, fStop, if_true, if_false, Bool.false_eq_true, ↓reduceIte]); with_reducible rfl) | (rw [hF]; ((try simp only [fTxtL]) <;> simp only [fTxtL, fEnd, if_neg c_41, c_50, if_pos c_58, bnd_t c_50, ← e_47, fStop, if_true, if_false, Bool.false_eq_true, ↓reduceIte]); rw [e_47]))) d_Reader_readText_77
              · skip
                have c_58 : ¬ (fMark T s_47 = (-1)) := c_58
                refine lv_aload_n hx hb d_Reader_readText_61 rfl (lv_at hl 1 rfl) ?_
                refine lv_aload_n hx hb d_Reader_readText_62 rfl (lv_at hl 1 rfl) ?_
                refine va_get (D := D) (ci := 1) (v := .int (rPl s_47)) (C := "HeadDesk$Reader") (T := F_Reader) (N := 11) hx hb hts a_Reader hown hX.1 hP 0 rfl rfl 6 (by decide) (hts _ m_47) (fun _ h9 => h9) rfl d_Reader_readText_63 ?_
                refine hx_Vz (wr := []) (As := [.int (rPl s_47)]) (rest := []) hI (c_Reader_stop hT s_47 (rPl s_47)) (cw_V (C := "HeadDesk$Reader") 1 hts m_58 m_60 m_61 m_57 m_59 (by decide +kernel) ⟨by decide, by decide⟩) hX hA hP hD hS [0, 1, 2, 3, 4, 5, 6, 7] [] rfl rfl (by decide) (by decide) (by decide) (va_recv hX.1 hP (ci := 1) (q0 := 0) rfl rfl) rfl hl.1 rfl (Nat.le_of_ble_eq_true rfl) d_Reader_readText_66 ⟨Nat.zero_le _, Nat.zero_le _⟩ (fun H locs hP hD hS => ?_)
                obtain ⟨s_66, e_66⟩ : ∃ z : RS, z = sSk s_47 (rPl s_47) := ⟨_, rfl⟩
                have hP : va_P D vwCl (rdW ad cd T s_66) H := by rw [e_66]; exact hP
                have hD : va_D A (rdW ad cd T s_66) := by rw [e_66]; exact hD
                refine lv_if_eq (tgt := 76) hx hb d_Reader_readText_69 (by decide) (fun c_69 => ?_) (fun c_69 => ?_)
                · skip
                  have c_69 : false = false := bI_0 c_69
                  refine lv_iconst (v := 0) hx hb d_Reader_readText_76 (by decide) ?_
                  exact hret H locs s_66 false _ _ hP hD hS (pr2 (by first | (rw [hF]; ((try simp only [fTxtL]) <;> simp only [fTxtL, fEnd, if_neg c_41, c_50, if_neg c_58, bnd_t c_50, ← e_47, ← e_66, fStop, if_true, if_false, Bool.false_eq_true, ↓reduceIte]); done) | (rw [hF]; ((try simp only [fTxtL]) <;> simp only [fTxtL, fEnd, if_neg c_41, c_50, if_neg c_58, bnd_t c_50, ← e_47, ← e_66, fStop, if_true, if_false, Bool.false_eq_true, ↓reduceIte]); with_reducible rfl) | (rw [hF]; ((try simp only [fTxtL]) <;> simp only [fTxtL, fEnd, if_neg c_41, c_50, if_neg c_58, bnd_t c_50, ← e_47, ← e_66, fStop, if_true, if_false, Bool.false_eq_true, ↓reduceIte]); rw [e_66]))) d_Reader_readText_77
                · skip
                  exact absurd rfl c_69
      exact loop38 101 0 s_28 H locs ls (by omega) (by rw [e_28, nm_fst, e_24]; exact (by decide : (0 : Int32) ≤ 0)) (by rw [fTxt, ← e_24, bnd_t c_31, ← e_28]) hP hD hS (lv_sub hl [0, 1, 2] rfl)
    · skip
      have c_31 : ((fFst T s_24).1) = false := bI_0 c_31
      refine lv_iconst (v := 0) hx hb d_Reader_readText_34 (by decide) ?_
      exact hret H locs s_28 false _ _ hP hD hS (pr2 (by first | (simp only [fTxt, c_31, bnd_f c_31, ← e_24, ← e_28, fStop, if_true, if_false, Bool.false_eq_true, ↓reduceIte]; done) | (simp only [fTxt, c_31, bnd_f c_31, ← e_24, ← e_28, fStop, if_true, if_false, Bool.false_eq_true, ↓reduceIte]; with_reducible rfl) | (simp only [fTxt, c_31, bnd_f c_31, ← e_24, ← e_28, fStop, if_true, if_false, Bool.false_eq_true, ↓reduceIte]; rw [e_28]))) d_Reader_readText_35
  rw [hH, hlo] at goal
  exact goal
end
section
/-- the desk: the tape, the reader, the good head, how many good TEXTS, the latest fault -/
abbrev DS : Type := TX × RS × ((Nat → Int32) × (Nat → Int32)) × Int32 × Int32
def dT (d : DS) : TX := d.1
def dS (d : DS) : RS := d.2.1
def dG (d : DS) : (Nat → Int32) × (Nat → Int32) := d.2.2.1
def dN (d : DS) : Int32 := d.2.2.2.1
def dL (d : DS) : Int32 := d.2.2.2.2
def uT (d : DS) (x : TX) : DS := (x, d.2)
def uS (d : DS) (x : RS) : DS := (d.1, x, d.2.2)
def uG (d : DS) (x : (Nat → Int32) × (Nat → Int32)) : DS := (d.1, d.2.1, x, d.2.2.2)
def uN (d : DS) (x : Int32) : DS := (d.1, d.2.1, d.2.2.1, x, d.2.2.2.2)
def uL (d : DS) (x : Int32) : DS := (d.1, d.2.1, d.2.2.1, d.2.2.2.1, x)
def fTold (d : DS) (x : Int32) : Int32 := if dN d = 0 then -1 else hGet (dG d).1 x
def fMat (d : DS) (x : Int32) : Bool := if dN d ≤ 0 then false else if hCov (dG d).1 (dG d).2 x = true then true else false
abbrev byM (d : DS) (len : Int32) : Int32 := iMax 0 (hLst (dG d).1 len - hFst (dG d).1 len + 1)
def fByt (d : DS) (len what : Int32) : Int32 := if dN d = 0 then -1 else if len < 0 then -1 else if len ≤ 255 then (if what = 0 then (if byM d len = 0 then -1 else hFst (dG d).1 len) else if what = 1 then (if byM d len = 0 then -1 else hLst (dG d).1 len) else if what = 2 then byM d len else -1) else -1
theorem tb13 {x : Int32} (h1 : ¬ x = 1) (h2 : ¬ x = 2) (h3 : ¬ x = 3) : x.toInt < 1 ∨ 3 < x.toInt := by
  rw [← Int32.toInt_inj] at h1 h2 h3
  have e1 : (1 : Int32).toInt = 1 := by decide
  have e2 : (2 : Int32).toInt = 2 := by decide
  have e3 : (3 : Int32).toInt = 3 := by decide
  omega
theorem tb02 {x : Int32} (h1 : ¬ x = 0) (h2 : ¬ x = 1) (h3 : ¬ x = 2) : x.toInt < 0 ∨ 2 < x.toInt := by
  rw [← Int32.toInt_inj] at h1 h2 h3
  have e1 : (0 : Int32).toInt = 0 := by decide
  have e2 : (1 : Int32).toInt = 1 := by decide
  have e3 : (2 : Int32).toInt = 2 := by decide
  omega
def dkW (ad : Nat → Nat) (cd : Nat → ClassId) (d : DS) : va_W := [(ad 8, .inr (3, [.ref (ad 1), .ref (ad 0), .ref (ad 9), .int (dN d), .int (dL d)])), (ad 0, .inr (1, [.ref (ad 1), .ref (ad 3), .ref (ad 4), .ref (ad 5), .int (rNm (dS d)), .int (rKd (dS d)), .int (rPl (dS d)), .int (rSk (dS d)), .int (rNb (dS d)), .int (rWs (dS d)), .int (rWe (dS d))])), (ad 1, .inr (2, [.ref (ad 2), .int ((dT d).2)])), (ad 2, .inl (cd 0, 300, .inl ((dT d).1))), (ad 3, .inl (cd 1, 100, .inl (rNs (dS d)))), (ad 4, .inl (cd 2, 100, .inl (rNe (dS d)))), (ad 5, .inr (0, [.ref (ad 6), .ref (ad 7)])), (ad 6, .inl (cd 3, 18, .inl (rVs (dS d)))), (ad 7, .inl (cd 4, 8, .inl (rVr (dS d)))), (ad 9, .inr (0, [.ref (ad 10), .ref (ad 11)])), (ad 10, .inl (cd 5, 18, .inl ((dG d).1))), (ad 11, .inl (cd 6, 8, .inl ((dG d).2)))]
end
section
variable {l : Launch} {D : va_G} {ad : Nat → Nat} {cd : Nat → ClassId} {adK adV : Nat → Nat} {tF : Nat} {T : TX} {tys : List (ClassId × FieldType)}
variable {ah av ar : Nat} {cv cr : ClassId} {tv tr : Nat}

set_option maxHeartbeats 4000000 in
set_option maxRecDepth 100000 in
theorem c_Head_firstByte (htv : tys[tv]? = some (cv, FieldType.int)) (htr : tys[tr]? = some (cr, FieldType.int)) (q : (Nat → Int32) × (Nat → Int32)) (x : Int32) : hx_Mi l D tys adK adV tF (hdW ah av ar cv cr) y_Head_firstByte w_Head_firstByte (rmD 2) [.ref ah, .int x] q (hFst q.1 x) q := by
  refine hx_Mi.of (cc := b_Head_firstByte) (maxL := 2) rfl (by decide) rfl (Nat.le_of_ble_eq_true rfl) ?_
  intro p e s m below meth c A Q ls hI hX hA hP hD hS hl hret
  obtain ⟨hx, hb, hml, hown, hts⟩ := id hI
  have hts : ∀ w ∈ aw, w.before ([.ref ah, .int x] : List Value).toArray s = true := fun w h => hts w (List.mem_cons_of_mem _ h)
  have hown : s.vm.findClass "HeadDesk$Head" = some m.cls := hown
  have hI : hx_In p s m ([.ref ah, .int x] : List Value).toArray c b_Head_firstByte 2 "HeadDesk$Head" aw := ⟨hx, hb, hml, hown, hts⟩
  have hP : va_P D vwCl (hdW ah av ar cv cr q) s.heap := hP
  obtain ⟨H, hH⟩ : ∃ H, H = s.heap := ⟨_, rfl⟩
  obtain ⟨locs, hlo⟩ : ∃ locs : List Loc, locs = [] := ⟨_, rfl⟩
  have hS : va_S A s.heap H locs := by rw [hH, hlo]; exact hS
  have hP : va_P D vwCl (hdW ah av ar cv cr q) H := by rw [hH]; exact hP
  have hl : lv_has ls 2 [(0, .ref ah), (1, .int x)] := hl
  have goal : W p l e (rmD 2) s m ([.ref ah, .int x] : List Value).toArray below meth c H locs 0 0 Q (F0 m 0 ls []) := by
    refine lv_aload_n hx hb d_Head_firstByte_0 rfl (lv_at hl 0 rfl) ?_
    refine va_get (D := D) (ci := 0) (v := .ref av) (C := "HeadDesk$Head") (T := F_Head) (N := 2) hx hb hts a_Head hown hX.1 hP 0 rfl rfl 0 (by decide) (hts _ m_34) (fun _ h9 => h9) rfl d_Head_firstByte_1 ?_
    refine lv_iconst (v := 3) hx hb d_Head_firstByte_4 (by decide) ?_
    refine va_iald hx hb hX.1 hP 1 tv rfl htv (vp_in_iff.mpr (by decide)) d_Head_firstByte_5 ?_
    refine hx_top (v := q.1 3) (by first | rfl | (rw [nI_clamp (by omega)])) ?_
    by_cases h_6_1 : q.1 3 = 1
    · refine hx_top h_6_1 ?_
      refine lv_tableIn (off := 26) (tgt := 32) hx hb d_Head_firstByte_6 (by decide) (by decide) rfl (by decide) ?_
      refine lv_aload_n hx hb d_Head_firstByte_32 rfl (lv_at hl 0 rfl) ?_
      refine va_get (D := D) (ci := 0) (v := .ref av) (C := "HeadDesk$Head") (T := F_Head) (N := 2) hx hb hts a_Head hown hX.1 hP 0 rfl rfl 0 (by decide) (hts _ m_34) (fun _ h9 => h9) rfl d_Head_firstByte_33 ?_
      refine lv_iconst (v := 4) hx hb d_Head_firstByte_36 (by decide) ?_
      refine va_iald hx hb hX.1 hP 1 tv rfl htv (vp_in_iff.mpr (by decide)) d_Head_firstByte_37 ?_
      refine hx_top (v := q.1 4) (by first | rfl | (rw [nI_clamp (by omega)])) ?_
      exact hret H locs q (q.1 4) _ _ hP hD hS ⟨(by first | (simp only [hFst, if_pos h_6_1, fStop, if_true, if_false, Bool.false_eq_true, ↓reduceIte]; done) | (simp only [hFst, if_pos h_6_1, fStop, if_true, if_false, Bool.false_eq_true, ↓reduceIte]; with_reducible rfl)), rfl⟩ d_Head_firstByte_38
    by_cases h_6_2 : q.1 3 = 2
    · refine hx_top h_6_2 ?_
      refine lv_tableIn (off := 26) (tgt := 32) hx hb d_Head_firstByte_6 (by decide) (by decide) rfl (by decide) ?_
      refine lv_aload_n hx hb d_Head_firstByte_32 rfl (lv_at hl 0 rfl) ?_
      refine va_get (D := D) (ci := 0) (v := .ref av) (C := "HeadDesk$Head") (T := F_Head) (N := 2) hx hb hts a_Head hown hX.1 hP 0 rfl rfl 0 (by decide) (hts _ m_34) (fun _ h9 => h9) rfl d_Head_firstByte_33 ?_
      refine lv_iconst (v := 4) hx hb d_Head_firstByte_36 (by decide) ?_
      refine va_iald hx hb hX.1 hP 1 tv rfl htv (vp_in_iff.mpr (by decide)) d_Head_firstByte_37 ?_
      refine hx_top (v := q.1 4) (by first | rfl | (rw [nI_clamp (by omega)])) ?_
      exact hret H locs q (q.1 4) _ _ hP hD hS ⟨(by first | (simp only [hFst, if_neg h_6_1, if_pos h_6_2, fStop, if_true, if_false, Bool.false_eq_true, ↓reduceIte]; done) | (simp only [hFst, if_neg h_6_1, if_pos h_6_2, fStop, if_true, if_false, Bool.false_eq_true, ↓reduceIte]; with_reducible rfl)), rfl⟩ d_Head_firstByte_38
    by_cases h_6_3 : q.1 3 = 3
    · refine hx_top h_6_3 ?_
      refine lv_tableIn (off := 33) (tgt := 39) hx hb d_Head_firstByte_6 (by decide) (by decide) rfl (by decide) ?_
      refine lv_iload_n hx hb d_Head_firstByte_39 rfl (lv_at hl 1 rfl) ?_
      refine lv_aload_n hx hb d_Head_firstByte_40 rfl (lv_at hl 0 rfl) ?_
      refine va_get (D := D) (ci := 0) (v := .ref av) (C := "HeadDesk$Head") (T := F_Head) (N := 2) hx hb hts a_Head hown hX.1 hP 0 rfl rfl 0 (by decide) (hts _ m_34) (fun _ h9 => h9) rfl d_Head_firstByte_41 ?_
      refine lv_iconst (v := 4) hx hb d_Head_firstByte_44 (by decide) ?_
      refine va_iald hx hb hX.1 hP 1 tv rfl htv (vp_in_iff.mpr (by decide)) d_Head_firstByte_45 ?_
      refine hx_top (v := q.1 4) (by first | rfl | (rw [nI_clamp (by omega)])) ?_
      refine lv_iload_n hx hb d_Head_firstByte_46 rfl (lv_at hl 1 rfl) ?_
      refine va_mmin hx hb (hml.trans hl.1.symm) hown (hts _ m_189) (hts _ m_190) (hts _ m_191) (hts _ m_192) (by decide) (Nat.le_of_ble_eq_true rfl) (Nat.zero_le _) (Nat.zero_le _) d_Head_firstByte_47 ?_
      refine hx_top (v := iMin (q.1 4) x) rfl ?_
      refine lv_isub hx hb d_Head_firstByte_50 ?_
      exact hret H locs q (x - (iMin (q.1 4) x)) _ _ hP hD hS ⟨(by first | (simp only [hFst, if_neg h_6_1, if_neg h_6_2, if_pos h_6_3, fStop, if_true, if_false, Bool.false_eq_true, ↓reduceIte]; done) | (simp only [hFst, if_neg h_6_1, if_neg h_6_2, if_pos h_6_3, fStop, if_true, if_false, Bool.false_eq_true, ↓reduceIte]; with_reducible rfl)), rfl⟩ d_Head_firstByte_51
    refine lv_tableOut (tgt := 52) hx hb d_Head_firstByte_6 (tb13 h_6_1 h_6_2 h_6_3) (by decide) ?_
    refine lv_iconst (v := 0) hx hb d_Head_firstByte_52 (by decide) ?_
    exact hret H locs q 0 _ _ hP hD hS ⟨(by first | (simp only [hFst, if_neg h_6_1, if_neg h_6_2, if_neg h_6_3, fStop, if_true, if_false, Bool.false_eq_true, ↓reduceIte]; done) | (simp only [hFst, if_neg h_6_1, if_neg h_6_2, if_neg h_6_3, fStop, if_true, if_false, Bool.false_eq_true, ↓reduceIte]; with_reducible rfl)), rfl⟩ d_Head_firstByte_53
  rw [hH, hlo] at goal
  exact goal
set_option maxHeartbeats 4000000 in
set_option maxRecDepth 100000 in
theorem c_Head_lastByte (htv : tys[tv]? = some (cv, FieldType.int)) (htr : tys[tr]? = some (cr, FieldType.int)) (q : (Nat → Int32) × (Nat → Int32)) (x : Int32) : hx_Mi l D tys adK adV tF (hdW ah av ar cv cr) y_Head_lastByte w_Head_lastByte (rmD 2) [.ref ah, .int x] q (hLst q.1 x) q := by
  refine hx_Mi.of (cc := b_Head_lastByte) (maxL := 2) rfl (by decide) rfl (Nat.le_of_ble_eq_true rfl) ?_
  intro p e s m below meth c A Q ls hI hX hA hP hD hS hl hret
  obtain ⟨hx, hb, hml, hown, hts⟩ := id hI
  have hts : ∀ w ∈ aw, w.before ([.ref ah, .int x] : List Value).toArray s = true := fun w h => hts w (List.mem_cons_of_mem _ h)
  have hown : s.vm.findClass "HeadDesk$Head" = some m.cls := hown
  have hI : hx_In p s m ([.ref ah, .int x] : List Value).toArray c b_Head_lastByte 2 "HeadDesk$Head" aw := ⟨hx, hb, hml, hown, hts⟩
  have hP : va_P D vwCl (hdW ah av ar cv cr q) s.heap := hP
  obtain ⟨H, hH⟩ : ∃ H, H = s.heap := ⟨_, rfl⟩
  obtain ⟨locs, hlo⟩ : ∃ locs : List Loc, locs = [] := ⟨_, rfl⟩
  have hS : va_S A s.heap H locs := by rw [hH, hlo]; exact hS
  have hP : va_P D vwCl (hdW ah av ar cv cr q) H := by rw [hH]; exact hP
  have hl : lv_has ls 2 [(0, .ref ah), (1, .int x)] := hl
  have goal : W p l e (rmD 2) s m ([.ref ah, .int x] : List Value).toArray below meth c H locs 0 0 Q (F0 m 0 ls []) := by
    refine lv_aload_n hx hb d_Head_lastByte_0 rfl (lv_at hl 0 rfl) ?_
    refine va_get (D := D) (ci := 0) (v := .ref av) (C := "HeadDesk$Head") (T := F_Head) (N := 2) hx hb hts a_Head hown hX.1 hP 0 rfl rfl 0 (by decide) (hts _ m_34) (fun _ h9 => h9) rfl d_Head_lastByte_1 ?_
    refine lv_iconst (v := 3) hx hb d_Head_lastByte_4 (by decide) ?_
    refine va_iald hx hb hX.1 hP 1 tv rfl htv (vp_in_iff.mpr (by decide)) d_Head_lastByte_5 ?_
    refine hx_top (v := q.1 3) (by first | rfl | (rw [nI_clamp (by omega)])) ?_
    refine lv_iconst (v := 1) hx hb d_Head_lastByte_6 (by decide) ?_
    refine lv_icmp_ne (tgt := 25) hx hb d_Head_lastByte_7 (by decide) (fun c_7 => ?_) (fun c_7 => ?_)
    · skip
      have c_7 : ¬ (q.1 3 = 1) := c_7
      refine lv_iload_n hx hb d_Head_lastByte_25 rfl (lv_at hl 1 rfl) ?_
      refine lv_iconst (v := 1) hx hb d_Head_lastByte_26 (by decide) ?_
      refine lv_isub hx hb d_Head_lastByte_27 ?_
      exact hret H locs q (x - 1) _ _ hP hD hS ⟨(by first | (simp only [hLst, if_neg c_7, fStop, if_true, if_false, Bool.false_eq_true, ↓reduceIte]; done) | (simp only [hLst, if_neg c_7, fStop, if_true, if_false, Bool.false_eq_true, ↓reduceIte]; with_reducible rfl)), rfl⟩ d_Head_lastByte_28
    · skip
      have c_7 : (q.1 3 = 1) := c_7
      refine lv_aload_n hx hb d_Head_lastByte_10 rfl (lv_at hl 0 rfl) ?_
      refine va_get (D := D) (ci := 0) (v := .ref av) (C := "HeadDesk$Head") (T := F_Head) (N := 2) hx hb hts a_Head hown hX.1 hP 0 rfl rfl 0 (by decide) (hts _ m_34) (fun _ h9 => h9) rfl d_Head_lastByte_11 ?_
      refine lv_iconst (v := 5) hx hb d_Head_lastByte_14 (by decide) ?_
      refine va_iald hx hb hX.1 hP 1 tv rfl htv (vp_in_iff.mpr (by decide)) d_Head_lastByte_15 ?_
      refine hx_top (v := q.1 5) (by first | rfl | (rw [nI_clamp (by omega)])) ?_
      refine lv_iload_n hx hb d_Head_lastByte_16 rfl (lv_at hl 1 rfl) ?_
      refine lv_iconst (v := 1) hx hb d_Head_lastByte_17 (by decide) ?_
      refine lv_isub hx hb d_Head_lastByte_18 ?_
      refine va_mmin hx hb (hml.trans hl.1.symm) hown (hts _ m_189) (hts _ m_190) (hts _ m_191) (hts _ m_192) (by decide) (Nat.le_of_ble_eq_true rfl) (Nat.zero_le _) (Nat.zero_le _) d_Head_lastByte_19 ?_
      refine hx_top (v := iMin (q.1 5) (x - 1)) rfl ?_
      refine lv_goto (tgt := 28) hx hb d_Head_lastByte_22 (by decide) ?_
      exact hret H locs q (iMin (q.1 5) (x - 1)) _ _ hP hD hS ⟨(by first | (simp only [hLst, if_pos c_7, fStop, if_true, if_false, Bool.false_eq_true, ↓reduceIte]; done) | (simp only [hLst, if_pos c_7, fStop, if_true, if_false, Bool.false_eq_true, ↓reduceIte]; with_reducible rfl)), rfl⟩ d_Head_lastByte_28
  rw [hH, hlo] at goal
  exact goal
end
section
variable {l : Launch} {D : va_G} {ad : Nat → Nat} {cd : Nat → ClassId} {adK adV : Nat → Nat} {tF : Nat} {T : TX} {tys : List (ClassId × FieldType)}

set_option maxHeartbeats 4000000 in
set_option maxRecDepth 100000 in
theorem c_Desk_fault (d : DS)  : hx_Mi l D (tyH cd) adK adV tF (dkW ad cd) y_Desk_fault w_Desk_fault (rmD 1) [.ref (ad 8)] d (dL d) d := by
  refine hx_Mi.of (cc := b_Desk_fault) (maxL := 1) rfl (by decide) rfl (Nat.le_of_ble_eq_true rfl) ?_
  intro p e s m below meth c A Q ls hI hX hA hP hD hS hl hret
  obtain ⟨hx, hb, hml, hown, hts⟩ := id hI
  have hts : ∀ w ∈ aw, w.before ([.ref (ad 8)] : List Value).toArray s = true := fun w h => hts w (List.mem_cons_of_mem _ h)
  have hown : s.vm.findClass "HeadDesk" = some m.cls := hown
  have hI : hx_In p s m ([.ref (ad 8)] : List Value).toArray c b_Desk_fault 1 "HeadDesk" aw := ⟨hx, hb, hml, hown, hts⟩
  have hP : va_P D vwCl (dkW ad cd d) s.heap := hP
  obtain ⟨H, hH⟩ : ∃ H, H = s.heap := ⟨_, rfl⟩
  obtain ⟨locs, hlo⟩ : ∃ locs : List Loc, locs = [] := ⟨_, rfl⟩
  have hS : va_S A s.heap H locs := by rw [hH, hlo]; exact hS
  have hP : va_P D vwCl (dkW ad cd d) H := by rw [hH]; exact hP
  have hl : lv_has ls 1 [(0, .ref (ad 8))] := hl
  have goal : W p l e (rmD 1) s m ([.ref (ad 8)] : List Value).toArray below meth c H locs 0 0 Q (F0 m 0 ls []) := by
    refine lv_aload_n hx hb d_Desk_fault_0 rfl (lv_at hl 0 rfl) ?_
    refine va_get (D := D) (ci := 3) (v := .int (dL d)) (C := "HeadDesk") (T := F_Desk) (N := 5) hx hb hts a_Desk hown hX.1 hP 0 rfl rfl 4 (by decide) (hts _ m_193) (fun _ h9 => h9) rfl d_Desk_fault_1 ?_
    exact hret H locs d (dL d) _ _ hP hD hS ⟨rfl, rfl⟩ d_Desk_fault_4
  rw [hH, hlo] at goal
  exact goal
set_option maxHeartbeats 4000000 in
set_option maxRecDepth 100000 in
theorem c_Desk_told (d : DS) (x : Int32) : hx_Mi l D (tyH cd) adK adV tF (dkW ad cd) y_Desk_told w_Desk_told (rmD 2) [.ref (ad 8), .int x] d (fTold d x) d := by
  refine hx_Mi.of (cc := b_Desk_told) (maxL := 2) rfl (by decide) rfl (Nat.le_of_ble_eq_true rfl) ?_
  intro p e s m below meth c A Q ls hI hX hA hP hD hS hl hret
  obtain ⟨hx, hb, hml, hown, hts⟩ := id hI
  have hts : ∀ w ∈ aw, w.before ([.ref (ad 8), .int x] : List Value).toArray s = true := fun w h => hts w (List.mem_cons_of_mem _ h)
  have hown : s.vm.findClass "HeadDesk" = some m.cls := hown
  have hI : hx_In p s m ([.ref (ad 8), .int x] : List Value).toArray c b_Desk_told 2 "HeadDesk" aw := ⟨hx, hb, hml, hown, hts⟩
  have hP : va_P D vwCl (dkW ad cd d) s.heap := hP
  obtain ⟨H, hH⟩ : ∃ H, H = s.heap := ⟨_, rfl⟩
  obtain ⟨locs, hlo⟩ : ∃ locs : List Loc, locs = [] := ⟨_, rfl⟩
  have hS : va_S A s.heap H locs := by rw [hH, hlo]; exact hS
  have hP : va_P D vwCl (dkW ad cd d) H := by rw [hH]; exact hP
  have hl : lv_has ls 2 [(0, .ref (ad 8)), (1, .int x)] := hl
  have goal : W p l e (rmD 2) s m ([.ref (ad 8), .int x] : List Value).toArray below meth c H locs 0 0 Q (F0 m 0 ls []) := by
    refine lv_aload_n hx hb d_Desk_told_0 rfl (lv_at hl 0 rfl) ?_
    refine va_get (D := D) (ci := 3) (v := .int (dN d)) (C := "HeadDesk") (T := F_Desk) (N := 5) hx hb hts a_Desk hown hX.1 hP 0 rfl rfl 3 (by decide) (hts _ m_194) (fun _ h9 => h9) rfl d_Desk_told_1 ?_
    refine lv_if_ne (tgt := 11) hx hb d_Desk_told_4 (by decide) (fun c_4 => ?_) (fun c_4 => ?_)
    · skip
      have c_4 : ¬ (dN d = 0) := c_4
      refine lv_aload_n hx hb d_Desk_told_11 rfl (lv_at hl 0 rfl) ?_
      refine va_get (D := D) (ci := 3) (v := .ref (ad 9)) (C := "HeadDesk") (T := F_Desk) (N := 5) hx hb hts a_Desk hown hX.1 hP 0 rfl rfl 2 (by decide) (hts _ m_195) (fun _ h9 => h9) rfl d_Desk_told_12 ?_
      refine lv_iload_n hx hb d_Desk_told_15 rfl (lv_at hl 1 rfl) ?_
      refine hx_Vi (wr := [(ad 8, .inr (3, [.ref (ad 1), .ref (ad 0), .ref (ad 9), .int (dN d), .int (dL d)])), (ad 0, .inr (1, [.ref (ad 1), .ref (ad 3), .ref (ad 4), .ref (ad 5), .int (rNm (dS d)), .int (rKd (dS d)), .int (rPl (dS d)), .int (rSk (dS d)), .int (rNb (dS d)), .int (rWs (dS d)), .int (rWe (dS d))])), (ad 1, .inr (2, [.ref (ad 2), .int ((dT d).2)])), (ad 2, .inl (cd 0, 300, .inl ((dT d).1))), (ad 3, .inl (cd 1, 100, .inl (rNs (dS d)))), (ad 4, .inl (cd 2, 100, .inl (rNe (dS d)))), (ad 5, .inr (0, [.ref (ad 6), .ref (ad 7)])), (ad 6, .inl (cd 3, 18, .inl (rVs (dS d)))), (ad 7, .inl (cd 4, 8, .inl (rVr (dS d))))]) (As := [.int x]) (rest := []) hI (c_Head_get (ah := ad 9) (av := ad 10) (ar := ad 11) (cv := cd 5) (cr := cd 6) (tv := 5) (tr := 6) rfl rfl (dG d) x) (cw_V (C := "HeadDesk$Head") 1 hts m_196 m_198 m_199 m_40 m_197 (by decide +kernel) ⟨by decide, by decide⟩) hX hA hP hD hS [9, 10, 11] [0, 1, 2, 3, 4, 5, 6, 7, 8] rfl rfl (by decide) (by decide) (by decide) (va_recv hX.1 hP (ci := 0) (q0 := 9) rfl rfl) rfl hl.1 rfl (Nat.le_of_ble_eq_true rfl) d_Desk_told_16 ⟨Nat.zero_le _, Nat.zero_le _⟩ (fun H locs hP hD hS => ?_)
      have hP : va_P D vwCl (dkW ad cd d) H := hP.sub [0, 1, 2, 3, 4, 5, 6, 7, 8, 9, 10, 11] rfl
      have hD : va_D A (dkW ad cd d) := hD.sub [0, 1, 2, 3, 4, 5, 6, 7, 8, 9, 10, 11] (by decide) rfl
      exact hret H locs d (hGet ((dG d).1) x) _ _ hP hD hS ⟨(by first | (simp only [fTold, if_neg c_4, fStop, if_true, if_false, Bool.false_eq_true, ↓reduceIte]; done) | (simp only [fTold, if_neg c_4, fStop, if_true, if_false, Bool.false_eq_true, ↓reduceIte]; with_reducible rfl)), rfl⟩ d_Desk_told_19
    · skip
      have c_4 : (dN d = 0) := c_4
      refine lv_iconst (v := (-1)) hx hb d_Desk_told_7 (by decide) ?_
      refine lv_goto (tgt := 19) hx hb d_Desk_told_8 (by decide) ?_
      exact hret H locs d (-1) _ _ hP hD hS ⟨(by first | (simp only [fTold, if_pos c_4, fStop, if_true, if_false, Bool.false_eq_true, ↓reduceIte]; done) | (simp only [fTold, if_pos c_4, fStop, if_true, if_false, Bool.false_eq_true, ↓reduceIte]; with_reducible rfl)), rfl⟩ d_Desk_told_19
  rw [hH, hlo] at goal
  exact goal
set_option maxHeartbeats 4000000 in
set_option maxRecDepth 100000 in
theorem c_Desk_matches (d : DS) (x : Int32) : hx_Mz l D (tyH cd) adK adV tF (dkW ad cd) y_Desk_matches w_Desk_matches (rmD 3) [.ref (ad 8), .int x] d (fMat d x) d := by
  refine hx_Mz.of (cc := b_Desk_matches) (maxL := 2) (by decide) rfl (Nat.le_of_ble_eq_true rfl) ?_
  intro p e s m below meth c A Q ls hI hX hA hP hD hS hl hret
  obtain ⟨hx, hb, hml, hown, hts⟩ := id hI
  have hts : ∀ w ∈ aw, w.before ([.ref (ad 8), .int x] : List Value).toArray s = true := fun w h => hts w (List.mem_cons_of_mem _ h)
  have hown : s.vm.findClass "HeadDesk" = some m.cls := hown
  have hI : hx_In p s m ([.ref (ad 8), .int x] : List Value).toArray c b_Desk_matches 2 "HeadDesk" aw := ⟨hx, hb, hml, hown, hts⟩
  have hP : va_P D vwCl (dkW ad cd d) s.heap := hP
  obtain ⟨H, hH⟩ : ∃ H, H = s.heap := ⟨_, rfl⟩
  obtain ⟨locs, hlo⟩ : ∃ locs : List Loc, locs = [] := ⟨_, rfl⟩
  have hS : va_S A s.heap H locs := by rw [hH, hlo]; exact hS
  have hP : va_P D vwCl (dkW ad cd d) H := by rw [hH]; exact hP
  have hl : lv_has ls 2 [(0, .ref (ad 8)), (1, .int x)] := hl
  have goal : W p l e (rmD 3) s m ([.ref (ad 8), .int x] : List Value).toArray below meth c H locs 0 0 Q (F0 m 0 ls []) := by
    refine lv_aload_n hx hb d_Desk_matches_0 rfl (lv_at hl 0 rfl) ?_
    refine va_get (D := D) (ci := 3) (v := .int (dN d)) (C := "HeadDesk") (T := F_Desk) (N := 5) hx hb hts a_Desk hown hX.1 hP 0 rfl rfl 3 (by decide) (hts _ m_194) (fun _ h9 => h9) rfl d_Desk_matches_1 ?_
    refine lv_if_le (tgt := 22) hx hb d_Desk_matches_4 (by decide) (fun c_4 => ?_) (fun c_4 => ?_)
    · skip
      have c_4 : (dN d ≤ 0) := c_4
      refine lv_iconst (v := 0) hx hb d_Desk_matches_22 (by decide) ?_
      exact hret H locs d false _ _ hP hD hS ⟨(by first | (simp only [fMat, if_pos c_4, fStop, if_true, if_false, Bool.false_eq_true, ↓reduceIte]; done) | (simp only [fMat, if_pos c_4, fStop, if_true, if_false, Bool.false_eq_true, ↓reduceIte]; with_reducible rfl)), rfl⟩ d_Desk_matches_23
    · skip
      have c_4 : ¬ (dN d ≤ 0) := c_4
      refine lv_aload_n hx hb d_Desk_matches_7 rfl (lv_at hl 0 rfl) ?_
      refine va_get (D := D) (ci := 3) (v := .ref (ad 9)) (C := "HeadDesk") (T := F_Desk) (N := 5) hx hb hts a_Desk hown hX.1 hP 0 rfl rfl 2 (by decide) (hts _ m_195) (fun _ h9 => h9) rfl d_Desk_matches_8 ?_
      refine lv_iload_n hx hb d_Desk_matches_11 rfl (lv_at hl 1 rfl) ?_
      refine hx_Vz (wr := [(ad 8, .inr (3, [.ref (ad 1), .ref (ad 0), .ref (ad 9), .int (dN d), .int (dL d)])), (ad 0, .inr (1, [.ref (ad 1), .ref (ad 3), .ref (ad 4), .ref (ad 5), .int (rNm (dS d)), .int (rKd (dS d)), .int (rPl (dS d)), .int (rSk (dS d)), .int (rNb (dS d)), .int (rWs (dS d)), .int (rWe (dS d))])), (ad 1, .inr (2, [.ref (ad 2), .int ((dT d).2)])), (ad 2, .inl (cd 0, 300, .inl ((dT d).1))), (ad 3, .inl (cd 1, 100, .inl (rNs (dS d)))), (ad 4, .inl (cd 2, 100, .inl (rNe (dS d)))), (ad 5, .inr (0, [.ref (ad 6), .ref (ad 7)])), (ad 6, .inl (cd 3, 18, .inl (rVs (dS d)))), (ad 7, .inl (cd 4, 8, .inl (rVr (dS d))))]) (As := [.int x]) (rest := []) hI (c_Head_coversVersion (ah := ad 9) (av := ad 10) (ar := ad 11) (cv := cd 5) (cr := cd 6) (tv := 5) (tr := 6) rfl rfl (dG d) x) (cw_V (C := "HeadDesk$Head") 1 hts m_200 m_202 m_203 m_40 m_201 (by decide +kernel) ⟨by decide, by decide⟩) hX hA hP hD hS [9, 10, 11] [0, 1, 2, 3, 4, 5, 6, 7, 8] rfl rfl (by decide) (by decide) (by decide) (va_recv hX.1 hP (ci := 0) (q0 := 9) rfl rfl) rfl hl.1 rfl (Nat.le_of_ble_eq_true rfl) d_Desk_matches_12 ⟨Nat.zero_le _, Nat.zero_le _⟩ (fun H locs hP hD hS => ?_)
      have hP : va_P D vwCl (dkW ad cd d) H := hP.sub [0, 1, 2, 3, 4, 5, 6, 7, 8, 9, 10, 11] rfl
      have hD : va_D A (dkW ad cd d) := hD.sub [0, 1, 2, 3, 4, 5, 6, 7, 8, 9, 10, 11] (by decide) rfl
      refine lv_if_eq (tgt := 22) hx hb d_Desk_matches_15 (by decide) (fun c_15 => ?_) (fun c_15 => ?_)
      · skip
        have c_15 : (hCov ((dG d).1) ((dG d).2) x) = false := bI_0 c_15
        refine lv_iconst (v := 0) hx hb d_Desk_matches_22 (by decide) ?_
        exact hret H locs d false _ _ hP hD hS ⟨(by first | (simp only [fMat, if_neg c_4, c_15, fStop, if_true, if_false, Bool.false_eq_true, ↓reduceIte]; done) | (simp only [fMat, if_neg c_4, c_15, fStop, if_true, if_false, Bool.false_eq_true, ↓reduceIte]; with_reducible rfl)), rfl⟩ d_Desk_matches_23
      · skip
        have c_15 : (hCov ((dG d).1) ((dG d).2) x) = true := bI_1 c_15
        refine lv_iconst (v := 1) hx hb d_Desk_matches_18 (by decide) ?_
        refine lv_goto (tgt := 23) hx hb d_Desk_matches_19 (by decide) ?_
        exact hret H locs d true _ _ hP hD hS ⟨(by first | (simp only [fMat, if_neg c_4, c_15, fStop, if_true, if_false, Bool.false_eq_true, ↓reduceIte]; done) | (simp only [fMat, if_neg c_4, c_15, fStop, if_true, if_false, Bool.false_eq_true, ↓reduceIte]; with_reducible rfl)), rfl⟩ d_Desk_matches_23
  rw [hH, hlo] at goal
  exact goal
set_option maxHeartbeats 4000000 in
set_option maxRecDepth 100000 in
theorem c_Desk_bytes (d : DS) (x : Int32) (z : Int32) : hx_Mi l D (tyH cd) adK adV tF (dkW ad cd) y_Desk_bytes w_Desk_bytes (rmD 3) [.ref (ad 8), .int x, .int z] d (fByt d x z) d := by
  refine hx_Mi.of (cc := b_Desk_bytes) (maxL := 6) rfl (by decide) rfl (Nat.le_of_ble_eq_true rfl) ?_
  intro p e s m below meth c A Q ls hI hX hA hP hD hS hl hret
  obtain ⟨hx, hb, hml, hown, hts⟩ := id hI
  have hts : ∀ w ∈ aw, w.before ([.ref (ad 8), .int x, .int z] : List Value).toArray s = true := fun w h => hts w (List.mem_cons_of_mem _ h)
  have hown : s.vm.findClass "HeadDesk" = some m.cls := hown
  have hI : hx_In p s m ([.ref (ad 8), .int x, .int z] : List Value).toArray c b_Desk_bytes 6 "HeadDesk" aw := ⟨hx, hb, hml, hown, hts⟩
  have hP : va_P D vwCl (dkW ad cd d) s.heap := hP
  obtain ⟨H, hH⟩ : ∃ H, H = s.heap := ⟨_, rfl⟩
  obtain ⟨locs, hlo⟩ : ∃ locs : List Loc, locs = [] := ⟨_, rfl⟩
  have hS : va_S A s.heap H locs := by rw [hH, hlo]; exact hS
  have hP : va_P D vwCl (dkW ad cd d) H := by rw [hH]; exact hP
  have hl : lv_has ls 6 [(0, .ref (ad 8)), (1, .int x), (2, .int z)] := hl
  have goal : W p l e (rmD 3) s m ([.ref (ad 8), .int x, .int z] : List Value).toArray below meth c H locs 0 0 Q (F0 m 0 ls []) := by
    refine lv_aload_n hx hb d_Desk_bytes_0 rfl (lv_at hl 0 rfl) ?_
    refine va_get (D := D) (ci := 3) (v := .int (dN d)) (C := "HeadDesk") (T := F_Desk) (N := 5) hx hb hts a_Desk hown hX.1 hP 0 rfl rfl 3 (by decide) (hts _ m_194) (fun _ h9 => h9) rfl d_Desk_bytes_1 ?_
    refine lv_if_eq (tgt := 18) hx hb d_Desk_bytes_4 (by decide) (fun c_4 => ?_) (fun c_4 => ?_)
    · skip
      have c_4 : (dN d = 0) := c_4
      refine lv_iconst (v := (-1)) hx hb d_Desk_bytes_18 (by decide) ?_
      exact hret H locs d (-1) _ _ hP hD hS ⟨(by first | (simp only [fByt, if_pos c_4, fStop, if_true, if_false, Bool.false_eq_true, ↓reduceIte]; done) | (simp only [fByt, if_pos c_4, fStop, if_true, if_false, Bool.false_eq_true, ↓reduceIte]; with_reducible rfl)), rfl⟩ d_Desk_bytes_19
    · skip
      have c_4 : ¬ (dN d = 0) := c_4
      refine lv_iload_n hx hb d_Desk_bytes_7 rfl (lv_at hl 1 rfl) ?_
      refine lv_if_lt (tgt := 18) hx hb d_Desk_bytes_8 (by decide) (fun c_8 => ?_) (fun c_8 => ?_)
      · skip
        have c_8 : (x < 0) := c_8
        refine lv_iconst (v := (-1)) hx hb d_Desk_bytes_18 (by decide) ?_
        exact hret H locs d (-1) _ _ hP hD hS ⟨(by first | (simp only [fByt, if_neg c_4, if_pos c_8, fStop, if_true, if_false, Bool.false_eq_true, ↓reduceIte]; done) | (simp only [fByt, if_neg c_4, if_pos c_8, fStop, if_true, if_false, Bool.false_eq_true, ↓reduceIte]; with_reducible rfl)), rfl⟩ d_Desk_bytes_19
      · skip
        have c_8 : ¬ (x < 0) := c_8
        refine lv_iload_n hx hb d_Desk_bytes_11 rfl (lv_at hl 1 rfl) ?_
        refine lv_sipush (v := 255) hx hb d_Desk_bytes_12 (by decide) ?_
        refine lv_icmp_le (tgt := 20) hx hb d_Desk_bytes_15 (by decide) (fun c_15 => ?_) (fun c_15 => ?_)
        · skip
          have c_15 : (x ≤ 255) := c_15
          refine lv_aload_n hx hb d_Desk_bytes_20 rfl (lv_at hl 0 rfl) ?_
          refine va_get (D := D) (ci := 3) (v := .ref (ad 9)) (C := "HeadDesk") (T := F_Desk) (N := 5) hx hb hts a_Desk hown hX.1 hP 0 rfl rfl 2 (by decide) (hts _ m_195) (fun _ h9 => h9) rfl d_Desk_bytes_21 ?_
          refine lv_iload_n hx hb d_Desk_bytes_24 rfl (lv_at hl 1 rfl) ?_
          refine hx_Vi (wr := [(ad 8, .inr (3, [.ref (ad 1), .ref (ad 0), .ref (ad 9), .int (dN d), .int (dL d)])), (ad 0, .inr (1, [.ref (ad 1), .ref (ad 3), .ref (ad 4), .ref (ad 5), .int (rNm (dS d)), .int (rKd (dS d)), .int (rPl (dS d)), .int (rSk (dS d)), .int (rNb (dS d)), .int (rWs (dS d)), .int (rWe (dS d))])), (ad 1, .inr (2, [.ref (ad 2), .int ((dT d).2)])), (ad 2, .inl (cd 0, 300, .inl ((dT d).1))), (ad 3, .inl (cd 1, 100, .inl (rNs (dS d)))), (ad 4, .inl (cd 2, 100, .inl (rNe (dS d)))), (ad 5, .inr (0, [.ref (ad 6), .ref (ad 7)])), (ad 6, .inl (cd 3, 18, .inl (rVs (dS d)))), (ad 7, .inl (cd 4, 8, .inl (rVr (dS d))))]) (As := [.int x]) (rest := []) hI (c_Head_firstByte (ah := ad 9) (av := ad 10) (ar := ad 11) (cv := cd 5) (cr := cd 6) (tv := 5) (tr := 6) rfl rfl (dG d) x) (cw_V (C := "HeadDesk$Head") 1 hts m_204 m_206 m_207 m_40 m_205 (by decide +kernel) ⟨by decide, by decide⟩) hX hA hP hD hS [9, 10, 11] [0, 1, 2, 3, 4, 5, 6, 7, 8] rfl rfl (by decide) (by decide) (by decide) (va_recv hX.1 hP (ci := 0) (q0 := 9) rfl rfl) rfl hl.1 rfl (Nat.le_of_ble_eq_true rfl) d_Desk_bytes_25 ⟨Nat.zero_le _, Nat.zero_le _⟩ (fun H locs hP hD hS => ?_)
          have hP : va_P D vwCl (dkW ad cd d) H := hP.sub [0, 1, 2, 3, 4, 5, 6, 7, 8, 9, 10, 11] rfl
          have hD : va_D A (dkW ad cd d) := hD.sub [0, 1, 2, 3, 4, 5, 6, 7, 8, 9, 10, 11] (by decide) rfl
          refine lv_istore_n (lv' := [(3, .int (hFst ((dG d).1) x)), (0, .ref (ad 8)), (1, .int x), (2, .int z)]) hx hb d_Desk_bytes_28 rfl hl (by decide) rfl (fun ls hl => ?_)
          refine lv_aload_n hx hb d_Desk_bytes_29 rfl (lv_at hl 1 rfl) ?_
          refine va_get (D := D) (ci := 3) (v := .ref (ad 9)) (C := "HeadDesk") (T := F_Desk) (N := 5) hx hb hts a_Desk hown hX.1 hP 0 rfl rfl 2 (by decide) (hts _ m_195) (fun _ h9 => h9) rfl d_Desk_bytes_30 ?_
          refine lv_iload_n hx hb d_Desk_bytes_33 rfl (lv_at hl 2 rfl) ?_
          refine hx_Vi (wr := [(ad 8, .inr (3, [.ref (ad 1), .ref (ad 0), .ref (ad 9), .int (dN d), .int (dL d)])), (ad 0, .inr (1, [.ref (ad 1), .ref (ad 3), .ref (ad 4), .ref (ad 5), .int (rNm (dS d)), .int (rKd (dS d)), .int (rPl (dS d)), .int (rSk (dS d)), .int (rNb (dS d)), .int (rWs (dS d)), .int (rWe (dS d))])), (ad 1, .inr (2, [.ref (ad 2), .int ((dT d).2)])), (ad 2, .inl (cd 0, 300, .inl ((dT d).1))), (ad 3, .inl (cd 1, 100, .inl (rNs (dS d)))), (ad 4, .inl (cd 2, 100, .inl (rNe (dS d)))), (ad 5, .inr (0, [.ref (ad 6), .ref (ad 7)])), (ad 6, .inl (cd 3, 18, .inl (rVs (dS d)))), (ad 7, .inl (cd 4, 8, .inl (rVr (dS d))))]) (As := [.int x]) (rest := []) hI (c_Head_lastByte (ah := ad 9) (av := ad 10) (ar := ad 11) (cv := cd 5) (cr := cd 6) (tv := 5) (tr := 6) rfl rfl (dG d) x) (cw_V (C := "HeadDesk$Head") 1 hts m_208 m_210 m_211 m_40 m_209 (by decide +kernel) ⟨by decide, by decide⟩) hX hA hP hD hS [9, 10, 11] [0, 1, 2, 3, 4, 5, 6, 7, 8] rfl rfl (by decide) (by decide) (by decide) (va_recv hX.1 hP (ci := 0) (q0 := 9) rfl rfl) rfl hl.1 rfl (Nat.le_of_ble_eq_true rfl) d_Desk_bytes_34 ⟨Nat.zero_le _, Nat.zero_le _⟩ (fun H locs hP hD hS => ?_)
          have hP : va_P D vwCl (dkW ad cd d) H := hP.sub [0, 1, 2, 3, 4, 5, 6, 7, 8, 9, 10, 11] rfl
          have hD : va_D A (dkW ad cd d) := hD.sub [0, 1, 2, 3, 4, 5, 6, 7, 8, 9, 10, 11] (by decide) rfl
          refine lv_istore (lv' := [(4, .int (hLst ((dG d).1) x)), (3, .int (hFst ((dG d).1) x)), (0, .ref (ad 8)), (1, .int x), (2, .int z)]) hx hb d_Desk_bytes_37 hl (by decide) rfl (fun ls hl => ?_)
          refine lv_iconst (v := 0) hx hb d_Desk_bytes_39 (by decide) ?_
          refine lv_iload hx hb d_Desk_bytes_40 (lv_at hl 0 rfl) ?_
          refine lv_iload_n hx hb d_Desk_bytes_42 rfl (lv_at hl 1 rfl) ?_
          refine lv_isub hx hb d_Desk_bytes_43 ?_
          refine lv_iconst (v := 1) hx hb d_Desk_bytes_44 (by decide) ?_
          refine lv_iadd hx hb d_Desk_bytes_45 ?_
          refine va_mmax hx hb (hml.trans hl.1.symm) hown (hts _ m_212) (hts _ m_213) (hts _ m_191) (hts _ m_214) (by decide) (Nat.le_of_ble_eq_true rfl) (Nat.zero_le _) (Nat.zero_le _) d_Desk_bytes_46 ?_
          refine hx_top (v := iMax 0 (((hLst ((dG d).1) x) - (hFst ((dG d).1) x)) + 1)) rfl ?_
          refine lv_istore (lv' := [(5, .int (iMax 0 (((hLst ((dG d).1) x) - (hFst ((dG d).1) x)) + 1))), (4, .int (hLst ((dG d).1) x)), (3, .int (hFst ((dG d).1) x)), (0, .ref (ad 8)), (1, .int x), (2, .int z)]) hx hb d_Desk_bytes_49 hl (by decide) rfl (fun ls hl => ?_)
          refine lv_iload_n hx hb d_Desk_bytes_51 rfl (lv_at hl 5 rfl) ?_
          by_cases h_52_0 : z = 0
          · refine hx_top h_52_0 ?_
            refine lv_tableIn (off := 28) (tgt := 80) hx hb d_Desk_bytes_52 (by decide) (by decide) rfl (by decide) ?_
            refine lv_iload hx hb d_Desk_bytes_80 (lv_at hl 0 rfl) ?_
            refine lv_if_ne (tgt := 89) hx hb d_Desk_bytes_82 (by decide) (fun c_82 => ?_) (fun c_82 => ?_)
            · skip
              have c_82 : ¬ (iMax 0 (((hLst ((dG d).1) x) - (hFst ((dG d).1) x)) + 1) = 0) := c_82
              refine lv_iload_n hx hb d_Desk_bytes_89 rfl (lv_at hl 2 rfl) ?_
              exact hret H locs d (hFst ((dG d).1) x) _ _ hP hD hS ⟨(by first | (simp only [fByt, if_neg c_4, if_neg c_8, if_pos c_15, if_pos h_52_0, if_neg c_82, fStop, if_true, if_false, Bool.false_eq_true, ↓reduceIte]; done) | (simp only [fByt, if_neg c_4, if_neg c_8, if_pos c_15, if_pos h_52_0, if_neg c_82, fStop, if_true, if_false, Bool.false_eq_true, ↓reduceIte]; with_reducible rfl)), rfl⟩ d_Desk_bytes_90
            · skip
              have c_82 : (iMax 0 (((hLst ((dG d).1) x) - (hFst ((dG d).1) x)) + 1) = 0) := c_82
              refine lv_iconst (v := (-1)) hx hb d_Desk_bytes_85 (by decide) ?_
              refine lv_goto (tgt := 90) hx hb d_Desk_bytes_86 (by decide) ?_
              exact hret H locs d (-1) _ _ hP hD hS ⟨(by first | (simp only [fByt, if_neg c_4, if_neg c_8, if_pos c_15, if_pos h_52_0, if_pos c_82, fStop, if_true, if_false, Bool.false_eq_true, ↓reduceIte]; done) | (simp only [fByt, if_neg c_4, if_neg c_8, if_pos c_15, if_pos h_52_0, if_pos c_82, fStop, if_true, if_false, Bool.false_eq_true, ↓reduceIte]; with_reducible rfl)), rfl⟩ d_Desk_bytes_90
          by_cases h_52_1 : z = 1
          · refine hx_top h_52_1 ?_
            refine lv_tableIn (off := 39) (tgt := 91) hx hb d_Desk_bytes_52 (by decide) (by decide) rfl (by decide) ?_
            refine lv_iload hx hb d_Desk_bytes_91 (lv_at hl 0 rfl) ?_
            refine lv_if_ne (tgt := 100) hx hb d_Desk_bytes_93 (by decide) (fun c_93 => ?_) (fun c_93 => ?_)
            · skip
              have c_93 : ¬ (iMax 0 (((hLst ((dG d).1) x) - (hFst ((dG d).1) x)) + 1) = 0) := c_93
              refine lv_iload hx hb d_Desk_bytes_100 (lv_at hl 1 rfl) ?_
              exact hret H locs d (hLst ((dG d).1) x) _ _ hP hD hS ⟨(by first | (simp only [fByt, if_neg c_4, if_neg c_8, if_pos c_15, if_neg h_52_0, if_pos h_52_1, if_neg c_93, fStop, if_true, if_false, Bool.false_eq_true, ↓reduceIte]; done) | (simp only [fByt, if_neg c_4, if_neg c_8, if_pos c_15, if_neg h_52_0, if_pos h_52_1, if_neg c_93, fStop, if_true, if_false, Bool.false_eq_true, ↓reduceIte]; with_reducible rfl)), rfl⟩ d_Desk_bytes_102
            · skip
              have c_93 : (iMax 0 (((hLst ((dG d).1) x) - (hFst ((dG d).1) x)) + 1) = 0) := c_93
              refine lv_iconst (v := (-1)) hx hb d_Desk_bytes_96 (by decide) ?_
              refine lv_goto (tgt := 102) hx hb d_Desk_bytes_97 (by decide) ?_
              exact hret H locs d (-1) _ _ hP hD hS ⟨(by first | (simp only [fByt, if_neg c_4, if_neg c_8, if_pos c_15, if_neg h_52_0, if_pos h_52_1, if_pos c_93, fStop, if_true, if_false, Bool.false_eq_true, ↓reduceIte]; done) | (simp only [fByt, if_neg c_4, if_neg c_8, if_pos c_15, if_neg h_52_0, if_pos h_52_1, if_pos c_93, fStop, if_true, if_false, Bool.false_eq_true, ↓reduceIte]; with_reducible rfl)), rfl⟩ d_Desk_bytes_102
          by_cases h_52_2 : z = 2
          · refine hx_top h_52_2 ?_
            refine lv_tableIn (off := 51) (tgt := 103) hx hb d_Desk_bytes_52 (by decide) (by decide) rfl (by decide) ?_
            refine lv_iload hx hb d_Desk_bytes_103 (lv_at hl 0 rfl) ?_
            exact hret H locs d (iMax 0 (((hLst ((dG d).1) x) - (hFst ((dG d).1) x)) + 1)) _ _ hP hD hS ⟨(by first | (simp only [fByt, if_neg c_4, if_neg c_8, if_pos c_15, if_neg h_52_0, if_neg h_52_1, if_pos h_52_2, fStop, if_true, if_false, Bool.false_eq_true, ↓reduceIte]; done) | (simp only [fByt, if_neg c_4, if_neg c_8, if_pos c_15, if_neg h_52_0, if_neg h_52_1, if_pos h_52_2, fStop, if_true, if_false, Bool.false_eq_true, ↓reduceIte]; with_reducible rfl)), rfl⟩ d_Desk_bytes_105
          refine lv_tableOut (tgt := 106) hx hb d_Desk_bytes_52 (tb02 h_52_0 h_52_1 h_52_2) (by decide) ?_
          refine lv_iconst (v := (-1)) hx hb d_Desk_bytes_106 (by decide) ?_
          exact hret H locs d (-1) _ _ hP hD hS ⟨(by first | (simp only [fByt, if_neg c_4, if_neg c_8, if_pos c_15, if_neg h_52_0, if_neg h_52_1, if_neg h_52_2, fStop, if_true, if_false, Bool.false_eq_true, ↓reduceIte]; done) | (simp only [fByt, if_neg c_4, if_neg c_8, if_pos c_15, if_neg h_52_0, if_neg h_52_1, if_neg h_52_2, fStop, if_true, if_false, Bool.false_eq_true, ↓reduceIte]; with_reducible rfl)), rfl⟩ d_Desk_bytes_107
        · skip
          have c_15 : ¬ (x ≤ 255) := c_15
          refine lv_iconst (v := (-1)) hx hb d_Desk_bytes_18 (by decide) ?_
          exact hret H locs d (-1) _ _ hP hD hS ⟨(by first | (simp only [fByt, if_neg c_4, if_neg c_8, if_neg c_15, fStop, if_true, if_false, Bool.false_eq_true, ↓reduceIte]; done) | (simp only [fByt, if_neg c_4, if_neg c_8, if_neg c_15, fStop, if_true, if_false, Bool.false_eq_true, ↓reduceIte]; with_reducible rfl)), rfl⟩ d_Desk_bytes_19
  rw [hH, hlo] at goal
  exact goal
set_option maxHeartbeats 4000000 in
set_option maxRecDepth 100000 in
theorem c_Desk_type (d : DS) (hT : (dT d).2 ≤ 300) (hT0 : 0 ≤ (dT d).2) (q : Int64) (x : Int32) : hx_Mz l D (tyH cd) adK adV tF (dkW ad cd) y_Desk_type w_Desk_type (rmD 3) [.ref (ad 8), .long q, .int x] d ((fApp (dT d) q x).1) (uT d (fApp (dT d) q x).2) := by
  refine hx_Mz.of (cc := b_Desk_type) (maxL := 4) (by decide) rfl (Nat.le_of_ble_eq_true rfl) ?_
  intro p e s m below meth c A Q ls hI hX hA hP hD hS hl hret
  obtain ⟨hx, hb, hml, hown, hts⟩ := id hI
  have hts : ∀ w ∈ aw, w.before ([.ref (ad 8), .long q, .int x] : List Value).toArray s = true := fun w h => hts w (List.mem_cons_of_mem _ h)
  have hown : s.vm.findClass "HeadDesk" = some m.cls := hown
  have hI : hx_In p s m ([.ref (ad 8), .long q, .int x] : List Value).toArray c b_Desk_type 4 "HeadDesk" aw := ⟨hx, hb, hml, hown, hts⟩
  have hP : va_P D vwCl (dkW ad cd d) s.heap := hP
  obtain ⟨H, hH⟩ : ∃ H, H = s.heap := ⟨_, rfl⟩
  obtain ⟨locs, hlo⟩ : ∃ locs : List Loc, locs = [] := ⟨_, rfl⟩
  have hS : va_S A s.heap H locs := by rw [hH, hlo]; exact hS
  have hP : va_P D vwCl (dkW ad cd d) H := by rw [hH]; exact hP
  have hl : lv_has ls 4 [(0, .ref (ad 8)), (1, .long q), (3, .int x)] := hl
  have goal : W p l e (rmD 3) s m ([.ref (ad 8), .long q, .int x] : List Value).toArray below meth c H locs 0 0 Q (F0 m 0 ls []) := by
    refine lv_aload_n hx hb d_Desk_type_0 rfl (lv_at hl 0 rfl) ?_
    refine va_get (D := D) (ci := 3) (v := .ref (ad 1)) (C := "HeadDesk") (T := F_Desk) (N := 5) hx hb hts a_Desk hown hX.1 hP 0 rfl rfl 0 (by decide) (hts _ m_215) (fun _ h9 => h9) rfl d_Desk_type_1 ?_
    refine lv_lload_n hx hb d_Desk_type_4 rfl (lv_at hl 1 rfl) ?_
    refine lv_iload_n hx hb d_Desk_type_5 rfl (lv_at hl 2 rfl) ?_
    refine hx_Vz (wr := [(ad 8, .inr (3, [.ref (ad 1), .ref (ad 0), .ref (ad 9), .int (dN d), .int (dL d)])), (ad 0, .inr (1, [.ref (ad 1), .ref (ad 3), .ref (ad 4), .ref (ad 5), .int (rNm (dS d)), .int (rKd (dS d)), .int (rPl (dS d)), .int (rSk (dS d)), .int (rNb (dS d)), .int (rWs (dS d)), .int (rWe (dS d))])), (ad 3, .inl (cd 1, 100, .inl (rNs (dS d)))), (ad 4, .inl (cd 2, 100, .inl (rNe (dS d)))), (ad 5, .inr (0, [.ref (ad 6), .ref (ad 7)])), (ad 6, .inl (cd 3, 18, .inl (rVs (dS d)))), (ad 7, .inl (cd 4, 8, .inl (rVr (dS d)))), (ad 9, .inr (0, [.ref (ad 10), .ref (ad 11)])), (ad 10, .inl (cd 5, 18, .inl ((dG d).1))), (ad 11, .inl (cd 6, 8, .inl ((dG d).2)))]) (As := [.long q, .int x]) (rest := []) hI (c_Tape_append hT hT0 q x) (cw_V (C := "HeadDesk$Tape") 2 hts m_216 m_218 m_219 m_30 m_217 (by decide +kernel) ⟨by decide, by decide⟩) hX hA hP hD hS [2, 3] [0, 1, 4, 5, 6, 7, 8, 9, 10, 11] rfl rfl (by decide) (by decide) (by decide) (va_recv hX.1 hP (ci := 2) (q0 := 2) rfl rfl) rfl hl.1 rfl (Nat.le_of_ble_eq_true rfl) d_Desk_type_6 ⟨Nat.zero_le _, Nat.zero_le _⟩ (fun H locs hP hD hS => ?_)
    have hP : va_P D vwCl (dkW ad cd (uT d (fApp (dT d) q x).2)) H := hP.sub [0, 1, 10, 11, 2, 3, 4, 5, 6, 7, 8, 9] rfl
    have hD : va_D A (dkW ad cd (uT d (fApp (dT d) q x).2)) := hD.sub [0, 1, 10, 11, 2, 3, 4, 5, 6, 7, 8, 9] (by decide) rfl
    exact hret H locs (uT d (fApp (dT d) q x).2) ((fApp (dT d) q x).1) _ _ hP hD hS ⟨rfl, by first | rfl | exact e_6.symm⟩ d_Desk_type_9
  rw [hH, hlo] at goal
  exact goal
end
section
/-! THE REFERENCE AS PURE FUNCTIONS: registers by number, and six rows -/
/-- registers (0 thrown, 1 taped, 2 fault, 3 at, 4 bad, 5 badPlace, 6 path, 7 variant, 8 rangeKind, 9 rangeA, 10 rangeB, 11 matches, 12 maxAge, 13 maxStale, 14 minFresh, 15 isHead, 16 star, 17 noCache, 18 onlyIfCached, 19 length, 20 keyMask, 21 live, 22 ifError, 23 ifLate, 24 noStore, 25 thingNoCache, 26 names, 27 keptMatches, 28 good, 29 wordFrom, 30 wordTo, 31 wordNumber), tape, match, nameFrom, nameTo, kept, keptMatch -/
abbrev MS : Type := (Nat → Int32) × (Nat → Int32) × (Nat → Int32) × (Nat → Int32) × (Nat → Int32) × (Nat → Int32) × (Nat → Int32)
def gR (s : MS) (k : Nat) : Int32 := s.1 k
def gTp (s : MS) : Nat → Int32 := s.2.1
def gMt (s : MS) : Nat → Int32 := s.2.2.1
def gNf (s : MS) : Nat → Int32 := s.2.2.2.1
def gNt (s : MS) : Nat → Int32 := s.2.2.2.2.1
def gKp (s : MS) : Nat → Int32 := s.2.2.2.2.2.1
def gKm (s : MS) : Nat → Int32 := s.2.2.2.2.2.2
def wR (s : MS) (k : Nat) (x : Int32) : MS := (upd s.1 k x, s.2)
def wTp (s : MS) (x : Nat → Int32) : MS := (s.1, x, s.2.2)
def wMt (s : MS) (x : Nat → Int32) : MS := (s.1, s.2.1, x, s.2.2.2)
def wNf (s : MS) (x : Nat → Int32) : MS := (s.1, s.2.1, s.2.2.1, x, s.2.2.2.2)
def wNt (s : MS) (x : Nat → Int32) : MS := (s.1, s.2.1, s.2.2.1, s.2.2.2.1, x, s.2.2.2.2.2)
def wKp (s : MS) (x : Nat → Int32) : MS := (s.1, s.2.1, s.2.2.1, s.2.2.2.1, s.2.2.2.2.1, x, s.2.2.2.2.2.2)
def wKm (s : MS) (x : Nat → Int32) : MS := (s.1, s.2.1, s.2.2.1, s.2.2.2.1, s.2.2.2.2.1, s.2.2.2.2.2.1, x)
def bnM (x : Bool × MS) (k : MS → Bool × MS) : Bool × MS := match x.1 with
  | true => k x.2
  | false => (false, x.2)
theorem bnM_t {x : Bool × MS} {k : MS → Bool × MS} (h : x.1 = true) : bnM x k = k x.2 := by rw [bnM, h]
theorem bnM_f {x : Bool × MS} {k : MS → Bool × MS} (h : x.1 = false) : bnM x k = (false, x.2) := by rw [bnM, h]
/-- what holds of the reference's numbers all the time -/
def mInv (s : MS) : Prop := 0 ≤ (gR s 3).toInt ∧ (gR s 3).toInt ≤ (gR s 1).toInt ∧ (gR s 1).toInt ≤ 300 ∧ 0 ≤ (gR s 26).toInt ∧ 2 * (gR s 26).toInt ≤ (gR s 3).toInt ∧ ∀ k : Nat, (k : Int) < (gR s 26).toInt → 0 ≤ (gNf s k).toInt ∧ (gNf s k).toInt ≤ (gNt s k).toInt ∧ (gNt s k).toInt ≤ (gR s 1).toInt
def mSee (s : MS) : Int32 := if gR s 1 ≤ gR s 3 then -1 else gTp s (gR s 3).toNatClampNeg
def mWr (s : MS) (p : Int32) : MS := if gR s 4 = 0 then wR (wR s 4 1) 5 p else s
abbrev mNx (s : MS) : MS := wR s 3 (gR s 3 + 1)
def mExp (s : MS) (c : Int32) : Bool × MS := if gR s 4 = 0 then (if mSee s = c then (true, mNx s) else (false, mWr s (gR s 3))) else (false, s)
def mWord : List Int32 → MS → Bool × MS
  | [], s => (true, s)
  | c :: cs, s => bnM (mExp s c) (fun s => mWord cs s)
def mNumL (fr : Int32) : Nat → MS → Int32 → MS × Int32
  | 0, s, v => (s, v)
  | k + 1, s, v => if isD (mSee s) = true then mNumL fr k (mNx s) (10 * v + mSee s - 48) else (s, v)
def mNumA (s : MS) (fr : Int32) : MS := if gR s 3 = fr then mWr s (gR s 3) else s
def mNumB (s : MS) (v fr most : Int32) : MS := if v ≤ most then s else mWr s fr
def mNumC (s : MS) (v : Int32) : Int32 × MS := if gR s 4 = 0 then (v, s) else (-1, s)
def mNumE (q : MS × Int32) (fr most : Int32) : Int32 × MS := mNumC (mNumB (mNumA q.1 fr) q.2 fr most) q.2
def mNum (s : MS) (most : Int32) : Int32 × MS := if gR s 4 = 0 then mNumE (mNumL (gR s 3) 5 s 0) (gR s 3) most else (-1, s)
theorem see_in {s : MS} (hv : mInv s) (h : ¬ gR s 1 ≤ gR s 3) : vp_in (gR s 3) 300 := by
  rw [i_le] at h
  obtain ⟨h1, h2, h3, -⟩ := hv
  exact vp_in_iff.mpr ⟨h1, by omega⟩
theorem inv_nx {s : MS} (hv : mInv s) (h : ¬ gR s 1 ≤ gR s 3) : mInv (mNx s) := by
  rw [i_le] at h
  obtain ⟨h1, h2, h3, h4, h5, h6⟩ := hv
  have e1 : (1 : Int32).toInt = 1 := by decide
  have e : (gR s 3 + 1).toInt = (gR s 3).toInt + 1 := by rw [Int32.toInt_add, e1, Int.bmod_eq_of_le (by omega) (by omega)]
  refine ⟨?_, ?_, h3, h4, ?_, h6⟩
  · show 0 ≤ (gR s 3 + 1).toInt; omega
  · show (gR s 3 + 1).toInt ≤ (gR s 1).toInt; omega
  · show 2 * (gR s 26).toInt ≤ (gR s 3 + 1).toInt; omega
theorem see_lt {s : MS} {c : Int32} (h : mSee s = c) (hc : ¬ c = -1) : ¬ gR s 1 ≤ gR s 3 := by
  intro q
  rw [mSee, if_pos q] at h
  exact hc h.symm
theorem isD_ne {c : Int32} (h : isD c = true) : ¬ c = -1 := by
  intro q
  rw [q] at h
  exact absurd h (by decide)
theorem isL_ne {c : Int32} (h : isL c = true) : ¬ c = -1 := by
  intro q
  rw [q] at h
  exact absurd h (by decide)
theorem inv_wr {s : MS} {p : Int32} (hv : mInv s) : mInv (mWr s p) := by
  unfold mWr
  split
  · exact hv
  · exact hv
theorem inv_exp {s : MS} {c : Int32} (hv : mInv s) (hc : ¬ c = -1) : mInv (mExp s c).2 := by
  unfold mExp
  split
  · split
    · rename_i h
      exact inv_nx hv (see_lt h hc)
    · exact inv_wr hv
  · exact hv
theorem inv_bnM {x : Bool × MS} {k : MS → Bool × MS} (h1 : mInv x.2) (h2 : ∀ s, mInv s → mInv (k s).2) : mInv (bnM x k).2 := by
  unfold bnM
  cases x.1 with
  | true => exact h2 _ h1
  | false => exact h1
theorem inv_word : ∀ (w : List Int32) (s : MS), (∀ c ∈ w, ¬ c = -1) → mInv s → mInv (mWord w s).2 := by
  intro w
  induction w with
  | nil => intro s _ hv; exact hv
  | cons c cs ih => intro s hw hv; exact inv_bnM (inv_exp hv (hw c List.mem_cons_self)) (fun s1 h1 => ih s1 (fun c hc => hw c (List.mem_cons_of_mem _ hc)) h1)
theorem inv_numL {fr : Int32} : ∀ (k : Nat) (s : MS) (v : Int32), mInv s → mInv (mNumL fr k s v).1 := by
  intro k
  induction k with
  | zero => intro s v hv; exact hv
  | succ k ih =>
    intro s v hv
    unfold mNumL
    split
    · rename_i h
      exact ih _ _ (inv_nx hv (see_lt rfl (isD_ne h)))
    · exact hv
theorem inv_numC {s : MS} {v : Int32} (hv : mInv s) : mInv (mNumC s v).2 := by unfold mNumC; split <;> exact hv
theorem inv_numB {s : MS} {v fr most : Int32} (hv : mInv s) : mInv (mNumB s v fr most) := by
  unfold mNumB; split
  · exact hv
  · exact inv_wr hv
theorem inv_numA {s : MS} {fr : Int32} (hv : mInv s) : mInv (mNumA s fr) := by
  unfold mNumA; split
  · exact inv_wr hv
  · exact hv
theorem inv_num {s : MS} {most : Int32} (hv : mInv s) : mInv (mNum s most).2 := by
  unfold mNum
  split
  · exact inv_numC (inv_numB (inv_numA (inv_numL 5 s 0 hv)))
  · exact hv
theorem sw_ne : ∀ i, i < nJS → ∀ c ∈ sw i, ¬ c = -1 := by decide +kernel
/-- how far the loop of number is -/
theorem nm_d0 {a f : Int32} (h : a.toInt = f.toInt + 5) : 5 ≤ a - f := by
  have e5 : (5 : Int32).toInt = 5 := by decide
  rw [i_le, Int32.toInt_sub, e5, h, show f.toInt + 5 - f.toInt = 5 by omega]
  decide
theorem nm_d1 {a f : Int32} {k : Nat} (h : a.toInt + ((k + 1 : Nat) : Int) = f.toInt + 5) (hk : k < 5) : ¬ 5 ≤ a - f := by
  have e5 : (5 : Int32).toInt = 5 := by decide
  rw [i_le, Int32.toInt_sub, e5, show a.toInt - f.toInt = 4 - (k : Int) by omega, Int.bmod_eq_of_le (by omega) (by omega)]
  omega
theorem nm_dn {s : MS} {f : Int32} {k : Nat} (hv : mInv s) (hs : ¬ gR s 1 ≤ gR s 3) (h : (gR s 3).toInt + ((k + 1 : Nat) : Int) = f.toInt + 5) : (gR s 3 + 1).toInt + (k : Int) = f.toInt + 5 := by
  rw [i_le] at hs
  obtain ⟨h1, h2, h3, -⟩ := hv
  have e1 : (1 : Int32).toInt = 1 := by decide
  rw [Int32.toInt_add, e1, Int.bmod_eq_of_le (by omega) (by omega)]
  omega
end
