theorem m_1 : (.fieldLink "java/lang/String" 1053 "jdk/internal/util/Preconditions" "SIOOBE_FORMATTER" "Ljava/util/function/BiFunction;" : Cond) ∈ aw := aw_2 (i := 62) rfl rfl
theorem m_2 : (.methodLink "java/lang/String" 1059 ⟨"jdk/internal/util/Preconditions", "checkIndex", "(IILjava/util/function/BiFunction;)I"⟩ : Cond) ∈ aw := aw_2 (i := 64) rfl rfl
theorem m_3 : (.code ⟨"jdk/internal/util/Preconditions", "checkIndex", "(IILjava/util/function/BiFunction;)I"⟩ prog_16_method_11_code 3 (some .int) : Cond) ∈ aw := aw_2 (i := 66) rfl rfl
theorem m_4 : (.static ⟨"jdk/internal/util/Preconditions", "checkIndex", "(IILjava/util/function/BiFunction;)I"⟩ : Cond) ∈ aw := aw_2 (i := 65) rfl rfl
theorem m_5 : (.initialized "jdk/internal/util/Preconditions" : Cond) ∈ aw := aw_1 (i := 13) rfl rfl
theorem m_6 : (.methodLink "java/lang/StringLatin1" 9 ⟨"java/lang/String", "checkIndex", "(II)V"⟩ : Cond) ∈ aw := aw_2 (i := 59) rfl rfl
theorem m_7 : (.code ⟨"java/lang/String", "checkIndex", "(II)V"⟩ prog_11_method_155_code 2 none : Cond) ∈ aw := aw_2 (i := 61) rfl rfl
theorem m_8 : (.static ⟨"java/lang/String", "checkIndex", "(II)V"⟩ : Cond) ∈ aw := aw_2 (i := 60) rfl rfl
theorem m_9 : (.initialized "java/lang/String" : Cond) ∈ aw := aw_1 (i := 11) rfl rfl
theorem m_10 : (.fieldLink "java/lang/String" 38 "java/lang/String" "COMPACT_STRINGS" "Z" : Cond) ∈ aw := aw_2 (i := 38) rfl rfl
theorem m_11 : (.fieldLink "java/lang/String" 15 "java/lang/String" "coder" "B" : Cond) ∈ aw := aw_3 (i := 230) rfl rfl
theorem m_12 : (.fieldLink "java/lang/String" 9 "java/lang/String" "value" "[B" : Cond) ∈ aw := aw_3 (i := 229) rfl rfl
theorem m_13 : (.methodLink "java/lang/String" 335 ⟨"java/lang/String", "coder", "()B"⟩ : Cond) ∈ aw := aw_2 (i := 34) rfl rfl
theorem m_14 : (.code ⟨"java/lang/String", "coder", "()B"⟩ prog_11_method_152_code 1 (some .byte) : Cond) ∈ aw := aw_2 (i := 37) rfl rfl
theorem m_15 : (.instanceMethod ⟨"java/lang/String", "coder", "()B"⟩ : Cond) ∈ aw := aw_2 (i := 35) rfl rfl
theorem m_16 : (.selects "java/lang/String" ⟨"java/lang/String", "coder", "()B"⟩ ⟨"java/lang/String", "coder", "()B"⟩ : Cond) ∈ aw := aw_2 (i := 36) rfl rfl
theorem m_17 : (.methodLink "java/lang/String" 492 ⟨"java/lang/String", "isLatin1", "()Z"⟩ : Cond) ∈ aw := aw_2 (i := 52) rfl rfl
theorem m_18 : (.code ⟨"java/lang/String", "isLatin1", "()Z"⟩ prog_11_method_154_code 1 (some .boolean) : Cond) ∈ aw := aw_2 (i := 55) rfl rfl
theorem m_19 : (.instanceMethod ⟨"java/lang/String", "isLatin1", "()Z"⟩ : Cond) ∈ aw := aw_2 (i := 53) rfl rfl
theorem m_20 : (.selects "java/lang/String" ⟨"java/lang/String", "isLatin1", "()Z"⟩ ⟨"java/lang/String", "isLatin1", "()Z"⟩ : Cond) ∈ aw := aw_2 (i := 54) rfl rfl
theorem m_21 : (.methodLink "java/lang/String" 495 ⟨"java/lang/StringLatin1", "charAt", "([BI)C"⟩ : Cond) ∈ aw := aw_2 (i := 56) rfl rfl
theorem m_22 : (.code ⟨"java/lang/StringLatin1", "charAt", "([BI)C"⟩ prog_12_method_2_code 2 (some .char) : Cond) ∈ aw := aw_2 (i := 58) rfl rfl
theorem m_23 : (.static ⟨"java/lang/StringLatin1", "charAt", "([BI)C"⟩ : Cond) ∈ aw := aw_2 (i := 57) rfl rfl
theorem m_24 : (.initialized "java/lang/StringLatin1" : Cond) ∈ aw := aw_1 (i := 12) rfl rfl
theorem m_25 : (.fieldLink "HeadDesk$Tape" 13 "HeadDesk$Tape" "length" "I" : Cond) ∈ aw := aw_1 (i := 31) rfl rfl
theorem m_26 : (.fieldLink "HeadDesk$Tape" 9 "HeadDesk$Tape" "marks" "[C" : Cond) ∈ aw := aw_1 (i := 30) rfl rfl
theorem m_27 : (.methodLink "HeadDesk$Tape" 17 ⟨"HeadDesk$Tape", "byteOf", "(JI)I"⟩ : Cond) ∈ aw := aw_1 (i := 120) rfl rfl
theorem m_28 : (.code ⟨"HeadDesk$Tape", "byteOf", "(JI)I"⟩ prog_4_method_5_code 3 (some .int) : Cond) ∈ aw := aw_1 (i := 122) rfl rfl
theorem m_29 : (.static ⟨"HeadDesk$Tape", "byteOf", "(JI)I"⟩ : Cond) ∈ aw := aw_1 (i := 121) rfl rfl
theorem m_30 : (.initialized "HeadDesk$Tape" : Cond) ∈ aw := aw_1 (i := 2) rfl rfl
theorem m_31 : (.methodLink "HeadDesk$Tape" 21 ⟨"HeadDesk$Tape", "mayStand", "(I)Z"⟩ : Cond) ∈ aw := aw_1 (i := 123) rfl rfl
theorem m_32 : (.code ⟨"HeadDesk$Tape", "mayStand", "(I)Z"⟩ prog_4_method_6_code 1 (some .boolean) : Cond) ∈ aw := aw_1 (i := 125) rfl rfl
theorem m_33 : (.static ⟨"HeadDesk$Tape", "mayStand", "(I)Z"⟩ : Cond) ∈ aw := aw_1 (i := 124) rfl rfl
theorem m_34 : (.fieldLink "HeadDesk$Head" 15 "HeadDesk$Head" "values" "[I" : Cond) ∈ aw := aw_1 (i := 52) rfl rfl
theorem m_35 : (.fieldLink "HeadDesk$Head" 18 "HeadDesk$Head" "versions" "[I" : Cond) ∈ aw := aw_1 (i := 53) rfl rfl
theorem m_36 : (.methodLink "HeadDesk$Head" 27 ⟨"HeadDesk$Head", "hasVersion", "(I)Z"⟩ : Cond) ∈ aw := aw_1 (i := 146) rfl rfl
theorem m_37 : (.code ⟨"HeadDesk$Head", "hasVersion", "(I)Z"⟩ prog_2_method_9_code 3 (some .boolean) : Cond) ∈ aw := aw_1 (i := 149) rfl rfl
theorem m_38 : (.instanceMethod ⟨"HeadDesk$Head", "hasVersion", "(I)Z"⟩ : Cond) ∈ aw := aw_1 (i := 148) rfl rfl
theorem m_39 : (.selects "HeadDesk$Head" ⟨"HeadDesk$Head", "hasVersion", "(I)Z"⟩ ⟨"HeadDesk$Head", "hasVersion", "(I)Z"⟩ : Cond) ∈ aw := aw_s (by decide +kernel)
theorem m_40 : (.initialized "HeadDesk$Head" : Cond) ∈ aw := aw_1 (i := 4) rfl rfl
theorem m_41 : (.fieldLink "HeadDesk$Head" 9 "HeadDesk$Head" "AT_FIRST" "[I" : Cond) ∈ aw := aw_1 (i := 50) rfl rfl
theorem m_42 : (.methodLink "HeadDesk$Head" 21 ⟨"java/lang/System", "arraycopy", "(Ljava/lang/Object;ILjava/lang/Object;II)V"⟩ : Cond) ∈ aw := aw_2 (i := 10) rfl rfl
theorem m_43 : (.native ⟨"java/lang/System", "arraycopy", "(Ljava/lang/Object;ILjava/lang/Object;II)V"⟩ : Cond) ∈ aw := aw_2 (i := 12) rfl rfl
theorem m_44 : (.static ⟨"java/lang/System", "arraycopy", "(Ljava/lang/Object;ILjava/lang/Object;II)V"⟩ : Cond) ∈ aw := aw_2 (i := 11) rfl rfl
theorem m_45 : (.initialized "java/lang/System" : Cond) ∈ aw := aw_1 (i := 10) rfl rfl
theorem m_46 : (.fieldLink "HeadDesk$Reader" 49 "HeadDesk$Reader" "tape" "LHeadDesk$Tape;" : Cond) ∈ aw := aw_1 (i := 60) rfl rfl
theorem m_47 : (.fieldLink "HeadDesk$Reader" 34 "HeadDesk$Reader" "place" "I" : Cond) ∈ aw := aw_1 (i := 66) rfl rfl
theorem m_48 : (.methodLink "HeadDesk$Reader" 184 ⟨"HeadDesk$Tape", "markAt", "(I)I"⟩ : Cond) ∈ aw := aw_2 (i := 44) rfl rfl
theorem m_49 : (.code ⟨"HeadDesk$Tape", "markAt", "(I)I"⟩ prog_4_method_4_code 2 (some .int) : Cond) ∈ aw := aw_2 (i := 47) rfl rfl
theorem m_50 : (.instanceMethod ⟨"HeadDesk$Tape", "markAt", "(I)I"⟩ : Cond) ∈ aw := aw_2 (i := 45) rfl rfl
theorem m_51 : (.selects "HeadDesk$Tape" ⟨"HeadDesk$Tape", "markAt", "(I)I"⟩ ⟨"HeadDesk$Tape", "markAt", "(I)I"⟩ : Cond) ∈ aw := aw_2 (i := 46) rfl rfl
theorem m_52 : (.fieldLink "HeadDesk$Reader" 37 "HeadDesk$Reader" "stuck" "I" : Cond) ∈ aw := aw_1 (i := 67) rfl rfl
theorem m_53 : (.methodLink "HeadDesk$Reader" 64 ⟨"HeadDesk$Reader", "mark", "()I"⟩ : Cond) ∈ aw := aw_2 (i := 40) rfl rfl
theorem m_54 : (.code ⟨"HeadDesk$Reader", "mark", "()I"⟩ prog_3_method_19_code 1 (some .int) : Cond) ∈ aw := aw_2 (i := 43) rfl rfl
theorem m_55 : (.instanceMethod ⟨"HeadDesk$Reader", "mark", "()I"⟩ : Cond) ∈ aw := aw_2 (i := 42) rfl rfl
theorem m_56 : (.selects "HeadDesk$Reader" ⟨"HeadDesk$Reader", "mark", "()I"⟩ ⟨"HeadDesk$Reader", "mark", "()I"⟩ : Cond) ∈ aw := aw_s (by decide +kernel)
theorem m_57 : (.initialized "HeadDesk$Reader" : Cond) ∈ aw := aw_1 (i := 3) rfl rfl
theorem m_58 : (.methodLink "HeadDesk$Reader" 68 ⟨"HeadDesk$Reader", "stop", "(I)Z"⟩ : Cond) ∈ aw := aw_2 (i := 86) rfl rfl
theorem m_59 : (.code ⟨"HeadDesk$Reader", "stop", "(I)Z"⟩ prog_3_method_20_code 2 (some .boolean) : Cond) ∈ aw := aw_2 (i := 89) rfl rfl
theorem m_60 : (.instanceMethod ⟨"HeadDesk$Reader", "stop", "(I)Z"⟩ : Cond) ∈ aw := aw_2 (i := 88) rfl rfl
theorem m_61 : (.selects "HeadDesk$Reader" ⟨"HeadDesk$Reader", "stop", "(I)Z"⟩ ⟨"HeadDesk$Reader", "stop", "(I)Z"⟩ : Cond) ∈ aw := aw_s (by decide +kernel)
theorem m_62 : (.fieldLink "HeadDesk$Reader" 40 "HeadDesk$Reader" "number" "I" : Cond) ∈ aw := aw_1 (i := 68) rfl rfl
theorem m_63 : (.methodLink "HeadDesk$Reader" 152 ⟨"HeadDesk$Reader", "isDigit", "(I)Z"⟩ : Cond) ∈ aw := aw_2 (i := 104) rfl rfl
theorem m_64 : (.code ⟨"HeadDesk$Reader", "isDigit", "(I)Z"⟩ prog_3_method_28_code 1 (some .boolean) : Cond) ∈ aw := aw_2 (i := 106) rfl rfl
theorem m_65 : (.static ⟨"HeadDesk$Reader", "isDigit", "(I)Z"⟩ : Cond) ∈ aw := aw_2 (i := 105) rfl rfl
theorem m_66 : (.fieldLink "HeadDesk$Reader" 43 "HeadDesk$Reader" "wordStart" "I" : Cond) ∈ aw := aw_1 (i := 69) rfl rfl
theorem m_67 : (.fieldLink "HeadDesk$Reader" 46 "HeadDesk$Reader" "wordEnd" "I" : Cond) ∈ aw := aw_1 (i := 70) rfl rfl
theorem m_68 : (.methodLink "HeadDesk$Reader" 196 ⟨"HeadDesk$Reader", "isLetter", "(I)Z"⟩ : Cond) ∈ aw := aw_2 (i := 119) rfl rfl
theorem m_69 : (.code ⟨"HeadDesk$Reader", "isLetter", "(I)Z"⟩ prog_3_method_29_code 1 (some .boolean) : Cond) ∈ aw := aw_2 (i := 121) rfl rfl
theorem m_70 : (.static ⟨"HeadDesk$Reader", "isLetter", "(I)Z"⟩ : Cond) ∈ aw := aw_2 (i := 120) rfl rfl
theorem m_71 : (.fieldLink "HeadDesk$Reader" 27 "HeadDesk$Reader" "names" "I" : Cond) ∈ aw := aw_1 (i := 64) rfl rfl
theorem m_72 : (.fieldLink "HeadDesk$Reader" 13 "HeadDesk$Reader" "nameStarts" "[I" : Cond) ∈ aw := aw_1 (i := 61) rfl rfl
theorem m_73 : (.fieldLink "HeadDesk$Reader" 17 "HeadDesk$Reader" "nameEnds" "[I" : Cond) ∈ aw := aw_1 (i := 62) rfl rfl
theorem m_74 : (.methodLink "HeadDesk$Reader" 110 ⟨"HeadDesk$Reader", "isWordFrom", "(II)Z"⟩ : Cond) ∈ aw := aw_2 (i := 126) rfl rfl
theorem m_75 : (.code ⟨"HeadDesk$Reader", "isWordFrom", "(II)Z"⟩ prog_3_method_27_code 4 (some .boolean) : Cond) ∈ aw := aw_2 (i := 129) rfl rfl
theorem m_76 : (.instanceMethod ⟨"HeadDesk$Reader", "isWordFrom", "(II)Z"⟩ : Cond) ∈ aw := aw_2 (i := 128) rfl rfl
theorem m_77 : (.selects "HeadDesk$Reader" ⟨"HeadDesk$Reader", "isWordFrom", "(II)Z"⟩ ⟨"HeadDesk$Reader", "isWordFrom", "(II)Z"⟩ : Cond) ∈ aw := aw_s (by decide +kernel)
theorem m_78 : (.methodLink "HeadDesk$Reader" 188 ⟨"java/lang/String", "length", "()I"⟩ : Cond) ∈ aw := aw_2 (i := 30) rfl rfl
theorem m_79 : (.code ⟨"java/lang/String", "length", "()I"⟩ prog_11_method_54_code 1 (some .int) : Cond) ∈ aw := aw_2 (i := 33) rfl rfl
theorem m_80 : (.instanceMethod ⟨"java/lang/String", "length", "()I"⟩ : Cond) ∈ aw := aw_2 (i := 31) rfl rfl
theorem m_81 : (.selects "java/lang/String" ⟨"java/lang/String", "length", "()I"⟩ ⟨"java/lang/String", "length", "()I"⟩ : Cond) ∈ aw := aw_2 (i := 32) rfl rfl
theorem m_82 : (.methodLink "HeadDesk$Reader" 192 ⟨"java/lang/String", "charAt", "(I)C"⟩ : Cond) ∈ aw := aw_2 (i := 48) rfl rfl
theorem m_83 : (.code ⟨"java/lang/String", "charAt", "(I)C"⟩ prog_11_method_56_code 2 (some .char) : Cond) ∈ aw := aw_2 (i := 51) rfl rfl
theorem m_84 : (.instanceMethod ⟨"java/lang/String", "charAt", "(I)C"⟩ : Cond) ∈ aw := aw_2 (i := 49) rfl rfl
theorem m_85 : (.selects "java/lang/String" ⟨"java/lang/String", "charAt", "(I)C"⟩ ⟨"java/lang/String", "charAt", "(I)C"⟩ : Cond) ∈ aw := aw_2 (i := 50) rfl rfl
theorem m_86 : (.methodLink "HeadDesk$Reader" 116 ⟨"HeadDesk$Reader", "isWord", "(Ljava/lang/String;)Z"⟩ : Cond) ∈ aw := aw_2 (i := 135) rfl rfl
theorem m_87 : (.code ⟨"HeadDesk$Reader", "isWord", "(Ljava/lang/String;)Z"⟩ prog_3_method_26_code 3 (some .boolean) : Cond) ∈ aw := aw_2 (i := 138) rfl rfl
theorem m_88 : (.instanceMethod ⟨"HeadDesk$Reader", "isWord", "(Ljava/lang/String;)Z"⟩ : Cond) ∈ aw := aw_2 (i := 137) rfl rfl
theorem m_89 : (.selects "HeadDesk$Reader" ⟨"HeadDesk$Reader", "isWord", "(Ljava/lang/String;)Z"⟩ ⟨"HeadDesk$Reader", "isWord", "(Ljava/lang/String;)Z"⟩ : Cond) ∈ aw := aw_s (by decide +kernel)
theorem m_90 : (.fieldLink "HeadDesk$Reader" 31 "HeadDesk$Reader" "kind" "I" : Cond) ∈ aw := aw_1 (i := 65) rfl rfl
theorem m_91 : (.fieldLink "HeadDesk$Reader" 23 "HeadDesk$Reader" "draft" "LHeadDesk$Head;" : Cond) ∈ aw := aw_1 (i := 63) rfl rfl
theorem m_92 : (.methodLink "HeadDesk$Reader" 87 ⟨"HeadDesk$Head", "set", "(II)V"⟩ : Cond) ∈ aw := aw_2 (i := 21) rfl rfl
theorem m_93 : (.code ⟨"HeadDesk$Head", "set", "(II)V"⟩ prog_2_method_4_code 3 none : Cond) ∈ aw := aw_2 (i := 24) rfl rfl
theorem m_94 : (.instanceMethod ⟨"HeadDesk$Head", "set", "(II)V"⟩ : Cond) ∈ aw := aw_2 (i := 22) rfl rfl
theorem m_95 : (.selects "HeadDesk$Head" ⟨"HeadDesk$Head", "set", "(II)V"⟩ ⟨"HeadDesk$Head", "set", "(II)V"⟩ : Cond) ∈ aw := aw_2 (i := 23) rfl rfl
theorem m_96 : (.methodLink "HeadDesk$Reader" 101 ⟨"HeadDesk$Reader", "takeNumber", "(I)Z"⟩ : Cond) ∈ aw := aw_2 (i := 100) rfl rfl
theorem m_97 : (.code ⟨"HeadDesk$Reader", "takeNumber", "(I)Z"⟩ prog_3_method_24_code 4 (some .boolean) : Cond) ∈ aw := aw_2 (i := 103) rfl rfl
theorem m_98 : (.instanceMethod ⟨"HeadDesk$Reader", "takeNumber", "(I)Z"⟩ : Cond) ∈ aw := aw_2 (i := 102) rfl rfl
theorem m_99 : (.selects "HeadDesk$Reader" ⟨"HeadDesk$Reader", "takeNumber", "(I)Z"⟩ ⟨"HeadDesk$Reader", "takeNumber", "(I)Z"⟩ : Cond) ∈ aw := aw_s (by decide +kernel)
theorem m_100 : (.methodLink "HeadDesk$Reader" 60 ⟨"HeadDesk$Reader", "skip", "(C)Z"⟩ : Cond) ∈ aw := aw_2 (i := 107) rfl rfl
theorem m_101 : (.code ⟨"HeadDesk$Reader", "skip", "(C)Z"⟩ prog_3_method_21_code 2 (some .boolean) : Cond) ∈ aw := aw_2 (i := 110) rfl rfl
theorem m_102 : (.instanceMethod ⟨"HeadDesk$Reader", "skip", "(C)Z"⟩ : Cond) ∈ aw := aw_2 (i := 109) rfl rfl
theorem m_103 : (.selects "HeadDesk$Reader" ⟨"HeadDesk$Reader", "skip", "(C)Z"⟩ ⟨"HeadDesk$Reader", "skip", "(C)Z"⟩ : Cond) ∈ aw := aw_s (by decide +kernel)
theorem m_104 : (.methodLink "HeadDesk$Reader" 93 ⟨"HeadDesk$Reader", "takeAll", "(Ljava/lang/String;)Z"⟩ : Cond) ∈ aw := aw_2 (i := 26) rfl rfl
theorem m_105 : (.code ⟨"HeadDesk$Reader", "takeAll", "(Ljava/lang/String;)Z"⟩ prog_3_method_23_code 3 (some .boolean) : Cond) ∈ aw := aw_2 (i := 29) rfl rfl
theorem m_106 : (.instanceMethod ⟨"HeadDesk$Reader", "takeAll", "(Ljava/lang/String;)Z"⟩ : Cond) ∈ aw := aw_2 (i := 28) rfl rfl
theorem m_107 : (.selects "HeadDesk$Reader" ⟨"HeadDesk$Reader", "takeAll", "(Ljava/lang/String;)Z"⟩ ⟨"HeadDesk$Reader", "takeAll", "(Ljava/lang/String;)Z"⟩ : Cond) ∈ aw := aw_s (by decide +kernel)
theorem m_108 : (.methodLink "HeadDesk$Reader" 81 ⟨"HeadDesk$Reader", "readVerb", "()Z"⟩ : Cond) ∈ aw := aw_2 (i := 17) rfl rfl
theorem m_109 : (.code ⟨"HeadDesk$Reader", "readVerb", "()Z"⟩ prog_3_method_6_code 1 (some .boolean) : Cond) ∈ aw := aw_2 (i := 20) rfl rfl
theorem m_110 : (.instanceMethod ⟨"HeadDesk$Reader", "readVerb", "()Z"⟩ : Cond) ∈ aw := aw_2 (i := 19) rfl rfl
theorem m_111 : (.selects "HeadDesk$Reader" ⟨"HeadDesk$Reader", "readVerb", "()Z"⟩ ⟨"HeadDesk$Reader", "readVerb", "()Z"⟩ : Cond) ∈ aw := aw_s (by decide +kernel)
theorem m_112 : (.methodLink "HeadDesk$Reader" 78 ⟨"HeadDesk$Reader", "take", "(C)Z"⟩ : Cond) ∈ aw := aw_2 (i := 92) rfl rfl
theorem m_113 : (.code ⟨"HeadDesk$Reader", "take", "(C)Z"⟩ prog_3_method_22_code 2 (some .boolean) : Cond) ∈ aw := aw_2 (i := 95) rfl rfl
theorem m_114 : (.instanceMethod ⟨"HeadDesk$Reader", "take", "(C)Z"⟩ : Cond) ∈ aw := aw_2 (i := 94) rfl rfl
theorem m_115 : (.selects "HeadDesk$Reader" ⟨"HeadDesk$Reader", "take", "(C)Z"⟩ ⟨"HeadDesk$Reader", "take", "(C)Z"⟩ : Cond) ∈ aw := aw_s (by decide +kernel)
theorem m_116 : (.methodLink "HeadDesk$Reader" 84 ⟨"HeadDesk$Reader", "readTarget", "()Z"⟩ : Cond) ∈ aw := aw_2 (i := 96) rfl rfl
theorem m_117 : (.code ⟨"HeadDesk$Reader", "readTarget", "()Z"⟩ prog_3_method_7_code 1 (some .boolean) : Cond) ∈ aw := aw_2 (i := 99) rfl rfl
theorem m_118 : (.instanceMethod ⟨"HeadDesk$Reader", "readTarget", "()Z"⟩ : Cond) ∈ aw := aw_2 (i := 98) rfl rfl
theorem m_119 : (.selects "HeadDesk$Reader" ⟨"HeadDesk$Reader", "readTarget", "()Z"⟩ ⟨"HeadDesk$Reader", "readTarget", "()Z"⟩ : Cond) ∈ aw := aw_s (by decide +kernel)
theorem m_120 : (.constant "HeadDesk$Reader" 147 99999 : Cond) ∈ aw := aw_2 (i := 151) rfl rfl
theorem m_121 : (.methodLink "HeadDesk$Reader" 148 ⟨"HeadDesk$Head", "setRange", "(III)V"⟩ : Cond) ∈ aw := aw_2 (i := 166) rfl rfl
theorem m_122 : (.code ⟨"HeadDesk$Head", "setRange", "(III)V"⟩ prog_2_method_5_code 4 none : Cond) ∈ aw := aw_2 (i := 169) rfl rfl
theorem m_123 : (.instanceMethod ⟨"HeadDesk$Head", "setRange", "(III)V"⟩ : Cond) ∈ aw := aw_2 (i := 167) rfl rfl
theorem m_124 : (.selects "HeadDesk$Head" ⟨"HeadDesk$Head", "setRange", "(III)V"⟩ ⟨"HeadDesk$Head", "setRange", "(III)V"⟩ : Cond) ∈ aw := aw_2 (i := 168) rfl rfl
theorem m_125 : (.methodLink "HeadDesk$Reader" 104 ⟨"HeadDesk$Reader", "takeLetters", "(I)Z"⟩ : Cond) ∈ aw := aw_2 (i := 115) rfl rfl
theorem m_126 : (.code ⟨"HeadDesk$Reader", "takeLetters", "(I)Z"⟩ prog_3_method_25_code 3 (some .boolean) : Cond) ∈ aw := aw_2 (i := 118) rfl rfl
theorem m_127 : (.instanceMethod ⟨"HeadDesk$Reader", "takeLetters", "(I)Z"⟩ : Cond) ∈ aw := aw_2 (i := 117) rfl rfl
theorem m_128 : (.selects "HeadDesk$Reader" ⟨"HeadDesk$Reader", "takeLetters", "(I)Z"⟩ ⟨"HeadDesk$Reader", "takeLetters", "(I)Z"⟩ : Cond) ∈ aw := aw_s (by decide +kernel)
theorem m_129 : (.methodLink "HeadDesk$Reader" 107 ⟨"HeadDesk$Reader", "wasThere", "()Z"⟩ : Cond) ∈ aw := aw_2 (i := 122) rfl rfl
theorem m_130 : (.code ⟨"HeadDesk$Reader", "wasThere", "()Z"⟩ prog_3_method_9_code 2 (some .boolean) : Cond) ∈ aw := aw_2 (i := 125) rfl rfl
theorem m_131 : (.instanceMethod ⟨"HeadDesk$Reader", "wasThere", "()Z"⟩ : Cond) ∈ aw := aw_2 (i := 124) rfl rfl
theorem m_132 : (.selects "HeadDesk$Reader" ⟨"HeadDesk$Reader", "wasThere", "()Z"⟩ ⟨"HeadDesk$Reader", "wasThere", "()Z"⟩ : Cond) ∈ aw := aw_s (by decide +kernel)
theorem m_133 : (.methodLink "HeadDesk$Reader" 155 ⟨"HeadDesk$Head", "addVersion", "(I)V"⟩ : Cond) ∈ aw := aw_2 (i := 175) rfl rfl
theorem m_134 : (.code ⟨"HeadDesk$Head", "addVersion", "(I)V"⟩ prog_2_method_7_code 3 none : Cond) ∈ aw := aw_2 (i := 178) rfl rfl
theorem m_135 : (.instanceMethod ⟨"HeadDesk$Head", "addVersion", "(I)V"⟩ : Cond) ∈ aw := aw_2 (i := 176) rfl rfl
theorem m_136 : (.selects "HeadDesk$Head" ⟨"HeadDesk$Head", "addVersion", "(I)V"⟩ ⟨"HeadDesk$Head", "addVersion", "(I)V"⟩ : Cond) ∈ aw := aw_2 (i := 177) rfl rfl
theorem m_137 : (.methodLink "HeadDesk$Reader" 159 ⟨"HeadDesk$Head", "addKey", "(I)V"⟩ : Cond) ∈ aw := aw_2 (i := 189) rfl rfl
theorem m_138 : (.code ⟨"HeadDesk$Head", "addKey", "(I)V"⟩ prog_2_method_6_code 2 none : Cond) ∈ aw := aw_2 (i := 192) rfl rfl
theorem m_139 : (.instanceMethod ⟨"HeadDesk$Head", "addKey", "(I)V"⟩ : Cond) ∈ aw := aw_2 (i := 190) rfl rfl
theorem m_140 : (.selects "HeadDesk$Head" ⟨"HeadDesk$Head", "addKey", "(I)V"⟩ ⟨"HeadDesk$Head", "addKey", "(I)V"⟩ : Cond) ∈ aw := aw_2 (i := 191) rfl rfl
theorem m_141 : (.methodLink "HeadDesk$Reader" 165 ⟨"HeadDesk$Reader", "countWithNumber", "()V"⟩ : Cond) ∈ aw := aw_2 (i := 152) rfl rfl
theorem m_142 : (.code ⟨"HeadDesk$Reader", "countWithNumber", "()V"⟩ prog_3_method_18_code 1 none : Cond) ∈ aw := aw_2 (i := 155) rfl rfl
theorem m_143 : (.instanceMethod ⟨"HeadDesk$Reader", "countWithNumber", "()V"⟩ : Cond) ∈ aw := aw_2 (i := 154) rfl rfl
theorem m_144 : (.selects "HeadDesk$Reader" ⟨"HeadDesk$Reader", "countWithNumber", "()V"⟩ ⟨"HeadDesk$Reader", "countWithNumber", "()V"⟩ : Cond) ∈ aw := aw_s (by decide +kernel)
theorem m_145 : (.methodLink "HeadDesk$Reader" 162 ⟨"HeadDesk$Reader", "countBare", "()V"⟩ : Cond) ∈ aw := aw_2 (i := 143) rfl rfl
theorem m_146 : (.code ⟨"HeadDesk$Reader", "countBare", "()V"⟩ prog_3_method_17_code 1 none : Cond) ∈ aw := aw_2 (i := 146) rfl rfl
theorem m_147 : (.instanceMethod ⟨"HeadDesk$Reader", "countBare", "()V"⟩ : Cond) ∈ aw := aw_2 (i := 145) rfl rfl
theorem m_148 : (.selects "HeadDesk$Reader" ⟨"HeadDesk$Reader", "countBare", "()V"⟩ ⟨"HeadDesk$Reader", "countBare", "()V"⟩ : Cond) ∈ aw := aw_s (by decide +kernel)
theorem m_149 : (.methodLink "HeadDesk$Reader" 142 ⟨"HeadDesk$Reader", "readAnything", "()Z"⟩ : Cond) ∈ aw := aw_2 (i := 193) rfl rfl
theorem m_150 : (.code ⟨"HeadDesk$Reader", "readAnything", "()Z"⟩ prog_3_method_11_code 2 (some .boolean) : Cond) ∈ aw := aw_2 (i := 196) rfl rfl
theorem m_151 : (.instanceMethod ⟨"HeadDesk$Reader", "readAnything", "()Z"⟩ : Cond) ∈ aw := aw_2 (i := 195) rfl rfl
theorem m_152 : (.selects "HeadDesk$Reader" ⟨"HeadDesk$Reader", "readAnything", "()Z"⟩ ⟨"HeadDesk$Reader", "readAnything", "()Z"⟩ : Cond) ∈ aw := aw_s (by decide +kernel)
theorem m_153 : (.methodLink "HeadDesk$Reader" 139 ⟨"HeadDesk$Reader", "readKeys", "()Z"⟩ : Cond) ∈ aw := aw_2 (i := 185) rfl rfl
theorem m_154 : (.code ⟨"HeadDesk$Reader", "readKeys", "()Z"⟩ prog_3_method_15_code 3 (some .boolean) : Cond) ∈ aw := aw_2 (i := 188) rfl rfl
theorem m_155 : (.instanceMethod ⟨"HeadDesk$Reader", "readKeys", "()Z"⟩ : Cond) ∈ aw := aw_2 (i := 187) rfl rfl
theorem m_156 : (.selects "HeadDesk$Reader" ⟨"HeadDesk$Reader", "readKeys", "()Z"⟩ ⟨"HeadDesk$Reader", "readKeys", "()Z"⟩ : Cond) ∈ aw := aw_s (by decide +kernel)
theorem m_157 : (.methodLink "HeadDesk$Reader" 134 ⟨"HeadDesk$Reader", "readLength", "()Z"⟩ : Cond) ∈ aw := aw_2 (i := 180) rfl rfl
theorem m_158 : (.code ⟨"HeadDesk$Reader", "readLength", "()Z"⟩ prog_3_method_14_code 1 (some .boolean) : Cond) ∈ aw := aw_2 (i := 183) rfl rfl
theorem m_159 : (.instanceMethod ⟨"HeadDesk$Reader", "readLength", "()Z"⟩ : Cond) ∈ aw := aw_2 (i := 182) rfl rfl
theorem m_160 : (.selects "HeadDesk$Reader" ⟨"HeadDesk$Reader", "readLength", "()Z"⟩ ⟨"HeadDesk$Reader", "readLength", "()Z"⟩ : Cond) ∈ aw := aw_s (by decide +kernel)
theorem m_161 : (.methodLink "HeadDesk$Reader" 129 ⟨"HeadDesk$Reader", "readVersions", "()Z"⟩ : Cond) ∈ aw := aw_2 (i := 171) rfl rfl
theorem m_162 : (.code ⟨"HeadDesk$Reader", "readVersions", "()Z"⟩ prog_3_method_13_code 2 (some .boolean) : Cond) ∈ aw := aw_2 (i := 174) rfl rfl
theorem m_163 : (.instanceMethod ⟨"HeadDesk$Reader", "readVersions", "()Z"⟩ : Cond) ∈ aw := aw_2 (i := 173) rfl rfl
theorem m_164 : (.selects "HeadDesk$Reader" ⟨"HeadDesk$Reader", "readVersions", "()Z"⟩ ⟨"HeadDesk$Reader", "readVersions", "()Z"⟩ : Cond) ∈ aw := aw_s (by decide +kernel)
theorem m_165 : (.methodLink "HeadDesk$Reader" 124 ⟨"HeadDesk$Reader", "readRange", "()Z"⟩ : Cond) ∈ aw := aw_2 (i := 161) rfl rfl
theorem m_166 : (.code ⟨"HeadDesk$Reader", "readRange", "()Z"⟩ prog_3_method_12_code 3 (some .boolean) : Cond) ∈ aw := aw_2 (i := 164) rfl rfl
theorem m_167 : (.instanceMethod ⟨"HeadDesk$Reader", "readRange", "()Z"⟩ : Cond) ∈ aw := aw_2 (i := 163) rfl rfl
theorem m_168 : (.selects "HeadDesk$Reader" ⟨"HeadDesk$Reader", "readRange", "()Z"⟩ ⟨"HeadDesk$Reader", "readRange", "()Z"⟩ : Cond) ∈ aw := aw_s (by decide +kernel)
theorem m_169 : (.methodLink "HeadDesk$Reader" 119 ⟨"HeadDesk$Reader", "readList", "()Z"⟩ : Cond) ∈ aw := aw_2 (i := 139) rfl rfl
theorem m_170 : (.code ⟨"HeadDesk$Reader", "readList", "()Z"⟩ prog_3_method_16_code 2 (some .boolean) : Cond) ∈ aw := aw_2 (i := 142) rfl rfl
theorem m_171 : (.instanceMethod ⟨"HeadDesk$Reader", "readList", "()Z"⟩ : Cond) ∈ aw := aw_2 (i := 141) rfl rfl
theorem m_172 : (.selects "HeadDesk$Reader" ⟨"HeadDesk$Reader", "readList", "()Z"⟩ ⟨"HeadDesk$Reader", "readList", "()Z"⟩ : Cond) ∈ aw := aw_s (by decide +kernel)
theorem m_173 : (.methodLink "HeadDesk$Reader" 53 ⟨"HeadDesk$Head", "clear", "()V"⟩ : Cond) ∈ aw := aw_2 (i := 6) rfl rfl
theorem m_174 : (.code ⟨"HeadDesk$Head", "clear", "()V"⟩ prog_2_method_2_code 1 none : Cond) ∈ aw := aw_2 (i := 9) rfl rfl
theorem m_175 : (.instanceMethod ⟨"HeadDesk$Head", "clear", "()V"⟩ : Cond) ∈ aw := aw_2 (i := 7) rfl rfl
theorem m_176 : (.selects "HeadDesk$Head" ⟨"HeadDesk$Head", "clear", "()V"⟩ ⟨"HeadDesk$Head", "clear", "()V"⟩ : Cond) ∈ aw := aw_2 (i := 8) rfl rfl
theorem m_177 : (.methodLink "HeadDesk$Reader" 56 ⟨"HeadDesk$Reader", "readFirstLine", "()Z"⟩ : Cond) ∈ aw := aw_2 (i := 13) rfl rfl
theorem m_178 : (.code ⟨"HeadDesk$Reader", "readFirstLine", "()Z"⟩ prog_3_method_5_code 1 (some .boolean) : Cond) ∈ aw := aw_2 (i := 16) rfl rfl
theorem m_179 : (.instanceMethod ⟨"HeadDesk$Reader", "readFirstLine", "()Z"⟩ : Cond) ∈ aw := aw_2 (i := 15) rfl rfl
theorem m_180 : (.selects "HeadDesk$Reader" ⟨"HeadDesk$Reader", "readFirstLine", "()Z"⟩ ⟨"HeadDesk$Reader", "readFirstLine", "()Z"⟩ : Cond) ∈ aw := aw_s (by decide +kernel)
theorem m_181 : (.methodLink "HeadDesk$Reader" 72 ⟨"HeadDesk$Reader", "readName", "()Z"⟩ : Cond) ∈ aw := aw_2 (i := 111) rfl rfl
theorem m_182 : (.code ⟨"HeadDesk$Reader", "readName", "()Z"⟩ prog_3_method_8_code 1 (some .boolean) : Cond) ∈ aw := aw_2 (i := 114) rfl rfl
theorem m_183 : (.instanceMethod ⟨"HeadDesk$Reader", "readName", "()Z"⟩ : Cond) ∈ aw := aw_2 (i := 113) rfl rfl
theorem m_184 : (.selects "HeadDesk$Reader" ⟨"HeadDesk$Reader", "readName", "()Z"⟩ ⟨"HeadDesk$Reader", "readName", "()Z"⟩ : Cond) ∈ aw := aw_s (by decide +kernel)
theorem m_185 : (.methodLink "HeadDesk$Reader" 75 ⟨"HeadDesk$Reader", "readValue", "()Z"⟩ : Cond) ∈ aw := aw_2 (i := 130) rfl rfl
theorem m_186 : (.code ⟨"HeadDesk$Reader", "readValue", "()Z"⟩ prog_3_method_10_code 1 (some .boolean) : Cond) ∈ aw := aw_2 (i := 133) rfl rfl
theorem m_187 : (.instanceMethod ⟨"HeadDesk$Reader", "readValue", "()Z"⟩ : Cond) ∈ aw := aw_2 (i := 132) rfl rfl
theorem m_188 : (.selects "HeadDesk$Reader" ⟨"HeadDesk$Reader", "readValue", "()Z"⟩ ⟨"HeadDesk$Reader", "readValue", "()Z"⟩ : Cond) ∈ aw := aw_s (by decide +kernel)
theorem m_189 : (.methodLink "HeadDesk$Head" 31 ⟨"java/lang/Math", "min", "(II)I"⟩ : Cond) ∈ aw := aw_1 (i := 158) rfl rfl
theorem m_190 : (.static ⟨"java/lang/Math", "min", "(II)I"⟩ : Cond) ∈ aw := aw_1 (i := 159) rfl rfl
theorem m_191 : (.initialized "java/lang/Math" : Cond) ∈ aw := aw_1 (i := 15) rfl rfl
theorem m_192 : (.code ⟨"java/lang/Math", "min", "(II)I"⟩ prog_9_method_69_code 2 (some .int) : Cond) ∈ aw := aw_1 (i := 160) rfl rfl
theorem m_193 : (.fieldLink "HeadDesk" 36 "HeadDesk" "latestFault" "I" : Cond) ∈ aw := aw_1 (i := 100) rfl rfl
theorem m_194 : (.fieldLink "HeadDesk" 32 "HeadDesk" "goodTexts" "I" : Cond) ∈ aw := aw_1 (i := 99) rfl rfl
theorem m_195 : (.fieldLink "HeadDesk" 28 "HeadDesk" "good" "LHeadDesk$Head;" : Cond) ∈ aw := aw_1 (i := 98) rfl rfl
theorem m_196 : (.methodLink "HeadDesk" 67 ⟨"HeadDesk$Head", "get", "(I)I"⟩ : Cond) ∈ aw := aw_1 (i := 134) rfl rfl
theorem m_197 : (.code ⟨"HeadDesk$Head", "get", "(I)I"⟩ prog_2_method_3_code 2 (some .int) : Cond) ∈ aw := aw_1 (i := 137) rfl rfl
theorem m_198 : (.instanceMethod ⟨"HeadDesk$Head", "get", "(I)I"⟩ : Cond) ∈ aw := aw_1 (i := 135) rfl rfl
theorem m_199 : (.selects "HeadDesk$Head" ⟨"HeadDesk$Head", "get", "(I)I"⟩ ⟨"HeadDesk$Head", "get", "(I)I"⟩ : Cond) ∈ aw := aw_1 (i := 136) rfl rfl
theorem m_200 : (.methodLink "HeadDesk" 71 ⟨"HeadDesk$Head", "coversVersion", "(I)Z"⟩ : Cond) ∈ aw := aw_1 (i := 142) rfl rfl
theorem m_201 : (.code ⟨"HeadDesk$Head", "coversVersion", "(I)Z"⟩ prog_2_method_8_code 2 (some .boolean) : Cond) ∈ aw := aw_1 (i := 145) rfl rfl
theorem m_202 : (.instanceMethod ⟨"HeadDesk$Head", "coversVersion", "(I)Z"⟩ : Cond) ∈ aw := aw_1 (i := 143) rfl rfl
theorem m_203 : (.selects "HeadDesk$Head" ⟨"HeadDesk$Head", "coversVersion", "(I)Z"⟩ ⟨"HeadDesk$Head", "coversVersion", "(I)Z"⟩ : Cond) ∈ aw := aw_1 (i := 144) rfl rfl
theorem m_204 : (.methodLink "HeadDesk" 74 ⟨"HeadDesk$Head", "firstByte", "(I)I"⟩ : Cond) ∈ aw := aw_1 (i := 154) rfl rfl
theorem m_205 : (.code ⟨"HeadDesk$Head", "firstByte", "(I)I"⟩ prog_2_method_10_code 2 (some .int) : Cond) ∈ aw := aw_1 (i := 157) rfl rfl
theorem m_206 : (.instanceMethod ⟨"HeadDesk$Head", "firstByte", "(I)I"⟩ : Cond) ∈ aw := aw_1 (i := 155) rfl rfl
theorem m_207 : (.selects "HeadDesk$Head" ⟨"HeadDesk$Head", "firstByte", "(I)I"⟩ ⟨"HeadDesk$Head", "firstByte", "(I)I"⟩ : Cond) ∈ aw := aw_1 (i := 156) rfl rfl
theorem m_208 : (.methodLink "HeadDesk" 77 ⟨"HeadDesk$Head", "lastByte", "(I)I"⟩ : Cond) ∈ aw := aw_1 (i := 161) rfl rfl
theorem m_209 : (.code ⟨"HeadDesk$Head", "lastByte", "(I)I"⟩ prog_2_method_11_code 2 (some .int) : Cond) ∈ aw := aw_1 (i := 164) rfl rfl
theorem m_210 : (.instanceMethod ⟨"HeadDesk$Head", "lastByte", "(I)I"⟩ : Cond) ∈ aw := aw_1 (i := 162) rfl rfl
theorem m_211 : (.selects "HeadDesk$Head" ⟨"HeadDesk$Head", "lastByte", "(I)I"⟩ ⟨"HeadDesk$Head", "lastByte", "(I)I"⟩ : Cond) ∈ aw := aw_1 (i := 163) rfl rfl
theorem m_212 : (.methodLink "HeadDesk" 80 ⟨"java/lang/Math", "max", "(II)I"⟩ : Cond) ∈ aw := aw_1 (i := 165) rfl rfl
theorem m_213 : (.static ⟨"java/lang/Math", "max", "(II)I"⟩ : Cond) ∈ aw := aw_1 (i := 166) rfl rfl
theorem m_214 : (.code ⟨"java/lang/Math", "max", "(II)I"⟩ prog_9_method_65_code 2 (some .int) : Cond) ∈ aw := aw_1 (i := 167) rfl rfl
theorem m_215 : (.fieldLink "HeadDesk" 10 "HeadDesk" "tape" "LHeadDesk$Tape;" : Cond) ∈ aw := aw_1 (i := 96) rfl rfl
theorem m_216 : (.methodLink "HeadDesk" 39 ⟨"HeadDesk$Tape", "append", "(JI)Z"⟩ : Cond) ∈ aw := aw_1 (i := 116) rfl rfl
theorem m_217 : (.code ⟨"HeadDesk$Tape", "append", "(JI)Z"⟩ prog_4_method_2_code 5 (some .boolean) : Cond) ∈ aw := aw_1 (i := 119) rfl rfl
theorem m_218 : (.instanceMethod ⟨"HeadDesk$Tape", "append", "(JI)Z"⟩ : Cond) ∈ aw := aw_1 (i := 117) rfl rfl
theorem m_219 : (.selects "HeadDesk$Tape" ⟨"HeadDesk$Tape", "append", "(JI)Z"⟩ ⟨"HeadDesk$Tape", "append", "(JI)Z"⟩ : Cond) ∈ aw := aw_1 (i := 118) rfl rfl
theorem m_220 : (.fieldLink "HeadDeskModel" 32 "HeadDeskModel" "thrown" "I" : Cond) ∈ aw := aw_2 (i := 216) rfl rfl
theorem m_221 : (.fieldLink "HeadDeskModel" 40 "HeadDeskModel" "at" "I" : Cond) ∈ aw := aw_2 (i := 220) rfl rfl
theorem m_222 : (.fieldLink "HeadDeskModel" 35 "HeadDeskModel" "taped" "I" : Cond) ∈ aw := aw_2 (i := 218) rfl rfl
theorem m_223 : (.fieldLink "HeadDeskModel" 7 "HeadDeskModel" "tape" "[I" : Cond) ∈ aw := aw_2 (i := 217) rfl rfl
theorem m_224 : (.fieldLink "HeadDeskModel" 43 "HeadDeskModel" "bad" "Z" : Cond) ∈ aw := aw_2 (i := 221) rfl rfl
theorem m_225 : (.fieldLink "HeadDeskModel" 47 "HeadDeskModel" "badPlace" "I" : Cond) ∈ aw := aw_2 (i := 222) rfl rfl
theorem m_226 : (.methodLink "HeadDeskModel" 50 ⟨"HeadDeskModel", "see", "()I"⟩ : Cond) ∈ aw := aw_3 (i := 108) rfl rfl
theorem m_227 : (.code ⟨"HeadDeskModel", "see", "()I"⟩ prog_6_method_4_code 1 (some .int) : Cond) ∈ aw := aw_3 (i := 111) rfl rfl
theorem m_228 : (.instanceMethod ⟨"HeadDeskModel", "see", "()I"⟩ : Cond) ∈ aw := aw_3 (i := 110) rfl rfl
theorem m_229 : (.selects "HeadDeskModel" ⟨"HeadDeskModel", "see", "()I"⟩ ⟨"HeadDeskModel", "see", "()I"⟩ : Cond) ∈ aw := aw_s (by decide +kernel)
theorem m_230 : (.initialized "HeadDeskModel" : Cond) ∈ aw := aw_1 (i := 5) rfl rfl
theorem m_231 : (.methodLink "HeadDeskModel" 54 ⟨"HeadDeskModel", "wrong", "(I)Z"⟩ : Cond) ∈ aw := aw_3 (i := 123) rfl rfl
theorem m_232 : (.code ⟨"HeadDeskModel", "wrong", "(I)Z"⟩ prog_6_method_5_code 2 (some .boolean) : Cond) ∈ aw := aw_3 (i := 126) rfl rfl
theorem m_233 : (.instanceMethod ⟨"HeadDeskModel", "wrong", "(I)Z"⟩ : Cond) ∈ aw := aw_3 (i := 125) rfl rfl
theorem m_234 : (.selects "HeadDeskModel" ⟨"HeadDeskModel", "wrong", "(I)Z"⟩ ⟨"HeadDeskModel", "wrong", "(I)Z"⟩ : Cond) ∈ aw := aw_s (by decide +kernel)
theorem m_235 : (.methodLink "HeadDeskModel" 70 ⟨"HeadDeskModel", "isDigit", "(I)Z"⟩ : Cond) ∈ aw := aw_3 (i := 137) rfl rfl
theorem m_236 : (.code ⟨"HeadDeskModel", "isDigit", "(I)Z"⟩ prog_6_method_8_code 1 (some .boolean) : Cond) ∈ aw := aw_3 (i := 139) rfl rfl
theorem m_237 : (.static ⟨"HeadDeskModel", "isDigit", "(I)Z"⟩ : Cond) ∈ aw := aw_3 (i := 138) rfl rfl
theorem m_238 : (.methodLink "HeadDeskModel" 58 ⟨"java/lang/String", "length", "()I"⟩ : Cond) ∈ aw := aw_3 (i := 117) rfl rfl
theorem m_239 : (.methodLink "HeadDeskModel" 63 ⟨"java/lang/String", "charAt", "(I)C"⟩ : Cond) ∈ aw := aw_3 (i := 118) rfl rfl
theorem m_240 : (.methodLink "HeadDeskModel" 67 ⟨"HeadDeskModel", "expect", "(I)Z"⟩ : Cond) ∈ aw := aw_3 (i := 119) rfl rfl
theorem m_241 : (.code ⟨"HeadDeskModel", "expect", "(I)Z"⟩ prog_6_method_6_code 2 (some .boolean) : Cond) ∈ aw := aw_3 (i := 122) rfl rfl
theorem m_242 : (.instanceMethod ⟨"HeadDeskModel", "expect", "(I)Z"⟩ : Cond) ∈ aw := aw_3 (i := 121) rfl rfl
theorem m_243 : (.selects "HeadDeskModel" ⟨"HeadDeskModel", "expect", "(I)Z"⟩ ⟨"HeadDeskModel", "expect", "(I)Z"⟩ : Cond) ∈ aw := aw_s (by decide +kernel)
theorem m_244 : (.methodLink "HeadDeskModel" 73 ⟨"HeadDeskModel", "number", "(I)I"⟩ : Cond) ∈ aw := aw_3 (i := 133) rfl rfl
theorem m_245 : (.code ⟨"HeadDeskModel", "number", "(I)I"⟩ prog_6_method_10_code 4 (some .int) : Cond) ∈ aw := aw_3 (i := 136) rfl rfl
theorem m_246 : (.instanceMethod ⟨"HeadDeskModel", "number", "(I)I"⟩ : Cond) ∈ aw := aw_3 (i := 135) rfl rfl
theorem m_247 : (.selects "HeadDeskModel" ⟨"HeadDeskModel", "number", "(I)I"⟩ ⟨"HeadDeskModel", "number", "(I)I"⟩ : Cond) ∈ aw := aw_s (by decide +kernel)
theorem m_248 : (.fieldLink "HeadDeskModel" 77 "HeadDeskModel" "path" "I" : Cond) ∈ aw := aw_2 (i := 223) rfl rfl
theorem m_249 : (.fieldLink "HeadDeskModel" 80 "HeadDeskModel" "variant" "I" : Cond) ∈ aw := aw_2 (i := 224) rfl rfl
theorem m_250 : (.methodLink "HeadDeskModel" 95 ⟨"HeadDeskModel", "expectWord", "(Ljava/lang/String;)Z"⟩ : Cond) ∈ aw := aw_3 (i := 113) rfl rfl
theorem m_251 : (.code ⟨"HeadDeskModel", "expectWord", "(Ljava/lang/String;)Z"⟩ prog_6_method_7_code 3 (some .boolean) : Cond) ∈ aw := aw_3 (i := 116) rfl rfl
theorem m_252 : (.instanceMethod ⟨"HeadDeskModel", "expectWord", "(Ljava/lang/String;)Z"⟩ : Cond) ∈ aw := aw_3 (i := 115) rfl rfl
theorem m_253 : (.selects "HeadDeskModel" ⟨"HeadDeskModel", "expectWord", "(Ljava/lang/String;)Z"⟩ ⟨"HeadDeskModel", "expectWord", "(Ljava/lang/String;)Z"⟩ : Cond) ∈ aw := aw_s (by decide +kernel)
theorem m_254 : (.constant "HeadDeskModel" 102 99999 : Cond) ∈ aw := aw_3 (i := 165) rfl rfl
theorem m_255 : (.fieldLink "HeadDeskModel" 103 "HeadDeskModel" "rangeA" "I" : Cond) ∈ aw := aw_2 (i := 226) rfl rfl
theorem m_256 : (.fieldLink "HeadDeskModel" 99 "HeadDeskModel" "rangeKind" "I" : Cond) ∈ aw := aw_2 (i := 225) rfl rfl
theorem m_257 : (.fieldLink "HeadDeskModel" 106 "HeadDeskModel" "rangeB" "I" : Cond) ∈ aw := aw_2 (i := 227) rfl rfl
