theorem m_1 : (.fieldLink "java/lang/String" 1053 "jdk/internal/util/Preconditions" "SIOOBE_FORMATTER" "Ljava/util/function/BiFunction;" : Cond) ∈ aw := aw_2 (i := 62) rfl rfl
theorem m_2 : (.methodLink "java/lang/String" 1059 ⟨"jdk/internal/util/Preconditions", "checkIndex", "(IILjava/util/function/BiFunction;)I"⟩ : Cond) ∈ aw := aw_2 (i := 64) rfl rfl
theorem m_3 : (.code ⟨"jdk/internal/util/Preconditions", "checkIndex", "(IILjava/util/function/BiFunction;)I"⟩ prog_16_method_11_code 3 (some .int) : Cond) ∈ aw := aw_2 (i := 66) rfl rfl
theorem m_4 : (.static ⟨"jdk/internal/util/Preconditions", "checkIndex", "(IILjava/util/function/BiFunction;)I"⟩ : Cond) ∈ aw := aw_2 (i := 65) rfl rfl
theorem m_5 : (.initialized "jdk/internal/util/Preconditions" : Cond) ∈ aw := aw_1 (i := 13) rfl rfl
theorem m_6 : (.methodLink "java/lang/StringLatin1" 9 ⟨"java/lang/String", "checkIndex", "(II)V"⟩ : Cond) ∈ aw := aw_2 (i := 59) rfl rfl
theorem m_7 : (.code ⟨"java/lang/String", "checkIndex", "(II)V"⟩ prog_11_method_155_code 2 none : Cond) ∈ aw := aw_2 (i := 61) rfl rfl
theorem m_8 : (.static ⟨"java/lang/String", "checkIndex", "(II)V"⟩ : Cond) ∈ aw := aw_2 (i := 60) rfl rfl
theorem m_9 : (.initialized "java/lang/String" : Cond) ∈ aw := aw_1 (i := 11) rfl rfl
theorem m_10 : (.fieldLink "java/lang/String" 38 "java/lang/String" "COMPACT_STRINGS" "Z" : Cond) ∈ aw := aw_2 (i := 38) rfl rfl
theorem m_11 : (.fieldLink "java/lang/String" 15 "java/lang/String" "coder" "B" : Cond) ∈ aw := aw_3 (i := 230) rfl rfl
theorem m_12 : (.fieldLink "java/lang/String" 9 "java/lang/String" "value" "[B" : Cond) ∈ aw := aw_3 (i := 229) rfl rfl
theorem m_13 : (.methodLink "java/lang/String" 335 ⟨"java/lang/String", "coder", "()B"⟩ : Cond) ∈ aw := aw_2 (i := 34) rfl rfl
theorem m_14 : (.code ⟨"java/lang/String", "coder", "()B"⟩ prog_11_method_152_code 1 (some .byte) : Cond) ∈ aw := aw_2 (i := 37) rfl rfl
theorem m_15 : (.instanceMethod ⟨"java/lang/String", "coder", "()B"⟩ : Cond) ∈ aw := aw_2 (i := 35) rfl rfl
theorem m_16 : (.selects "java/lang/String" ⟨"java/lang/String", "coder", "()B"⟩ ⟨"java/lang/String", "coder", "()B"⟩ : Cond) ∈ aw := aw_2 (i := 36) rfl rfl
theorem m_17 : (.methodLink "java/lang/String" 492 ⟨"java/lang/String", "isLatin1", "()Z"⟩ : Cond) ∈ aw := aw_2 (i := 52) rfl rfl
theorem m_18 : (.code ⟨"java/lang/String", "isLatin1", "()Z"⟩ prog_11_method_154_code 1 (some .boolean) : Cond) ∈ aw := aw_2 (i := 55) rfl rfl
theorem m_19 : (.instanceMethod ⟨"java/lang/String", "isLatin1", "()Z"⟩ : Cond) ∈ aw := aw_2 (i := 53) rfl rfl
theorem m_20 : (.selects "java/lang/String" ⟨"java/lang/String", "isLatin1", "()Z"⟩ ⟨"java/lang/String", "isLatin1", "()Z"⟩ : Cond) ∈ aw := aw_2 (i := 54) rfl rfl
theorem m_21 : (.methodLink "java/lang/String" 495 ⟨"java/lang/StringLatin1", "charAt", "([BI)C"⟩ : Cond) ∈ aw := aw_2 (i := 56) rfl rfl
theorem m_22 : (.code ⟨"java/lang/StringLatin1", "charAt", "([BI)C"⟩ prog_12_method_2_code 2 (some .char) : Cond) ∈ aw := aw_2 (i := 58) rfl rfl
theorem m_23 : (.static ⟨"java/lang/StringLatin1", "charAt", "([BI)C"⟩ : Cond) ∈ aw := aw_2 (i := 57) rfl rfl
theorem m_24 : (.initialized "java/lang/StringLatin1" : Cond) ∈ aw := aw_1 (i := 12) rfl rfl
theorem m_25 : (.fieldLink "HeadDesk$Tape" 13 "HeadDesk$Tape" "length" "I" : Cond) ∈ aw := aw_1 (i := 31) rfl rfl
theorem m_26 : (.fieldLink "HeadDesk$Tape" 9 "HeadDesk$Tape" "marks" "[C" : Cond) ∈ aw := aw_1 (i := 30) rfl rfl
theorem m_27 : (.methodLink "HeadDesk$Tape" 17 ⟨"HeadDesk$Tape", "byteOf", "(JI)I"⟩ : Cond) ∈ aw := aw_1 (i := 120) rfl rfl
theorem m_28 : (.code ⟨"HeadDesk$Tape", "byteOf", "(JI)I"⟩ prog_4_method_5_code 3 (some .int) : Cond) ∈ aw := aw_1 (i := 122) rfl rfl
theorem m_29 : (.static ⟨"HeadDesk$Tape", "byteOf", "(JI)I"⟩ : Cond) ∈ aw := aw_1 (i := 121) rfl rfl
theorem m_30 : (.initialized "HeadDesk$Tape" : Cond) ∈ aw := aw_1 (i := 2) rfl rfl
theorem m_31 : (.methodLink "HeadDesk$Tape" 21 ⟨"HeadDesk$Tape", "mayStand", "(I)Z"⟩ : Cond) ∈ aw := aw_1 (i := 123) rfl rfl
theorem m_32 : (.code ⟨"HeadDesk$Tape", "mayStand", "(I)Z"⟩ prog_4_method_6_code 1 (some .boolean) : Cond) ∈ aw := aw_1 (i := 125) rfl rfl
theorem m_33 : (.static ⟨"HeadDesk$Tape", "mayStand", "(I)Z"⟩ : Cond) ∈ aw := aw_1 (i := 124) rfl rfl
theorem m_34 : (.fieldLink "HeadDesk$Head" 15 "HeadDesk$Head" "values" "[I" : Cond) ∈ aw := aw_1 (i := 52) rfl rfl
theorem m_35 : (.fieldLink "HeadDesk$Head" 18 "HeadDesk$Head" "versions" "[I" : Cond) ∈ aw := aw_1 (i := 53) rfl rfl
theorem m_36 : (.methodLink "HeadDesk$Head" 27 ⟨"HeadDesk$Head", "hasVersion", "(I)Z"⟩ : Cond) ∈ aw := aw_1 (i := 146) rfl rfl
theorem m_37 : (.code ⟨"HeadDesk$Head", "hasVersion", "(I)Z"⟩ prog_2_method_9_code 3 (some .boolean) : Cond) ∈ aw := aw_1 (i := 149) rfl rfl
theorem m_38 : (.instanceMethod ⟨"HeadDesk$Head", "hasVersion", "(I)Z"⟩ : Cond) ∈ aw := aw_1 (i := 148) rfl rfl
theorem m_39 : (.selects "HeadDesk$Head" ⟨"HeadDesk$Head", "hasVersion", "(I)Z"⟩ ⟨"HeadDesk$Head", "hasVersion", "(I)Z"⟩ : Cond) ∈ aw := aw_s (by decide +kernel)
theorem m_40 : (.initialized "HeadDesk$Head" : Cond) ∈ aw := aw_1 (i := 4) rfl rfl
theorem m_41 : (.fieldLink "HeadDesk$Head" 9 "HeadDesk$Head" "AT_FIRST" "[I" : Cond) ∈ aw := aw_1 (i := 50) rfl rfl
theorem m_42 : (.methodLink "HeadDesk$Head" 21 ⟨"java/lang/System", "arraycopy", "(Ljava/lang/Object;ILjava/lang/Object;II)V"⟩ : Cond) ∈ aw := aw_2 (i := 10) rfl rfl
theorem m_43 : (.native ⟨"java/lang/System", "arraycopy", "(Ljava/lang/Object;ILjava/lang/Object;II)V"⟩ : Cond) ∈ aw := aw_2 (i := 12) rfl rfl
theorem m_44 : (.static ⟨"java/lang/System", "arraycopy", "(Ljava/lang/Object;ILjava/lang/Object;II)V"⟩ : Cond) ∈ aw := aw_2 (i := 11) rfl rfl
theorem m_45 : (.initialized "java/lang/System" : Cond) ∈ aw := aw_1 (i := 10) rfl rfl
theorem m_46 : (.fieldLink "HeadDesk$Reader" 49 "HeadDesk$Reader" "tape" "LHeadDesk$Tape;" : Cond) ∈ aw := aw_1 (i := 60) rfl rfl
theorem m_47 : (.fieldLink "HeadDesk$Reader" 34 "HeadDesk$Reader" "place" "I" : Cond) ∈ aw := aw_1 (i := 66) rfl rfl
theorem m_48 : (.methodLink "HeadDesk$Reader" 184 ⟨"HeadDesk$Tape", "markAt", "(I)I"⟩ : Cond) ∈ aw := aw_2 (i := 44) rfl rfl
theorem m_49 : (.code ⟨"HeadDesk$Tape", "markAt", "(I)I"⟩ prog_4_method_4_code 2 (some .int) : Cond) ∈ aw := aw_2 (i := 47) rfl rfl
theorem m_50 : (.instanceMethod ⟨"HeadDesk$Tape", "markAt", "(I)I"⟩ : Cond) ∈ aw := aw_2 (i := 45) rfl rfl
theorem m_51 : (.selects "HeadDesk$Tape" ⟨"HeadDesk$Tape", "markAt", "(I)I"⟩ ⟨"HeadDesk$Tape", "markAt", "(I)I"⟩ : Cond) ∈ aw := aw_2 (i := 46) rfl rfl
theorem m_52 : (.fieldLink "HeadDesk$Reader" 37 "HeadDesk$Reader" "stuck" "I" : Cond) ∈ aw := aw_1 (i := 67) rfl rfl
theorem m_53 : (.methodLink "HeadDesk$Reader" 64 ⟨"HeadDesk$Reader", "mark", "()I"⟩ : Cond) ∈ aw := aw_2 (i := 40) rfl rfl
theorem m_54 : (.code ⟨"HeadDesk$Reader", "mark", "()I"⟩ prog_3_method_19_code 1 (some .int) : Cond) ∈ aw := aw_2 (i := 43) rfl rfl
theorem m_55 : (.instanceMethod ⟨"HeadDesk$Reader", "mark", "()I"⟩ : Cond) ∈ aw := aw_2 (i := 42) rfl rfl
theorem m_56 : (.selects "HeadDesk$Reader" ⟨"HeadDesk$Reader", "mark", "()I"⟩ ⟨"HeadDesk$Reader", "mark", "()I"⟩ : Cond) ∈ aw := aw_s (by decide +kernel)
theorem m_57 : (.initialized "HeadDesk$Reader" : Cond) ∈ aw := aw_1 (i := 3) rfl rfl
theorem m_58 : (.methodLink "HeadDesk$Reader" 68 ⟨"HeadDesk$Reader", "stop", "(I)Z"⟩ : Cond) ∈ aw := aw_2 (i := 86) rfl rfl
theorem m_59 : (.code ⟨"HeadDesk$Reader", "stop", "(I)Z"⟩ prog_3_method_20_code 2 (some .boolean) : Cond) ∈ aw := aw_2 (i := 89) rfl rfl
theorem m_60 : (.instanceMethod ⟨"HeadDesk$Reader", "stop", "(I)Z"⟩ : Cond) ∈ aw := aw_2 (i := 88) rfl rfl
theorem m_61 : (.selects "HeadDesk$Reader" ⟨"HeadDesk$Reader", "stop", "(I)Z"⟩ ⟨"HeadDesk$Reader", "stop", "(I)Z"⟩ : Cond) ∈ aw := aw_s (by decide +kernel)
theorem m_62 : (.fieldLink "HeadDesk$Reader" 40 "HeadDesk$Reader" "number" "I" : Cond) ∈ aw := aw_1 (i := 68) rfl rfl
theorem m_63 : (.methodLink "HeadDesk$Reader" 152 ⟨"HeadDesk$Reader", "isDigit", "(I)Z"⟩ : Cond) ∈ aw := aw_2 (i := 104) rfl rfl
theorem m_64 : (.code ⟨"HeadDesk$Reader", "isDigit", "(I)Z"⟩ prog_3_method_28_code 1 (some .boolean) : Cond) ∈ aw := aw_2 (i := 106) rfl rfl
theorem m_65 : (.static ⟨"HeadDesk$Reader", "isDigit", "(I)Z"⟩ : Cond) ∈ aw := aw_2 (i := 105) rfl rfl
theorem m_66 : (.fieldLink "HeadDesk$Reader" 43 "HeadDesk$Reader" "wordStart" "I" : Cond) ∈ aw := aw_1 (i := 69) rfl rfl
theorem m_67 : (.fieldLink "HeadDesk$Reader" 46 "HeadDesk$Reader" "wordEnd" "I" : Cond) ∈ aw := aw_1 (i := 70) rfl rfl
theorem m_68 : (.methodLink "HeadDesk$Reader" 196 ⟨"HeadDesk$Reader", "isLetter", "(I)Z"⟩ : Cond) ∈ aw := aw_2 (i := 119) rfl rfl
theorem m_69 : (.code ⟨"HeadDesk$Reader", "isLetter", "(I)Z"⟩ prog_3_method_29_code 1 (some .boolean) : Cond) ∈ aw := aw_2 (i := 121) rfl rfl
theorem m_70 : (.static ⟨"HeadDesk$Reader", "isLetter", "(I)Z"⟩ : Cond) ∈ aw := aw_2 (i := 120) rfl rfl
theorem m_71 : (.fieldLink "HeadDesk$Reader" 27 "HeadDesk$Reader" "names" "I" : Cond) ∈ aw := aw_1 (i := 64) rfl rfl
theorem m_72 : (.fieldLink "HeadDesk$Reader" 13 "HeadDesk$Reader" "nameStarts" "[I" : Cond) ∈ aw := aw_1 (i := 61) rfl rfl
theorem m_73 : (.fieldLink "HeadDesk$Reader" 17 "HeadDesk$Reader" "nameEnds" "[I" : Cond) ∈ aw := aw_1 (i := 62) rfl rfl
theorem m_74 : (.methodLink "HeadDesk$Reader" 110 ⟨"HeadDesk$Reader", "isWordFrom", "(II)Z"⟩ : Cond) ∈ aw := aw_2 (i := 126) rfl rfl
theorem m_75 : (.code ⟨"HeadDesk$Reader", "isWordFrom", "(II)Z"⟩ prog_3_method_27_code 4 (some .boolean) : Cond) ∈ aw := aw_2 (i := 129) rfl rfl
theorem m_76 : (.instanceMethod ⟨"HeadDesk$Reader", "isWordFrom", "(II)Z"⟩ : Cond) ∈ aw := aw_2 (i := 128) rfl rfl
theorem m_77 : (.selects "HeadDesk$Reader" ⟨"HeadDesk$Reader", "isWordFrom", "(II)Z"⟩ ⟨"HeadDesk$Reader", "isWordFrom", "(II)Z"⟩ : Cond) ∈ aw := aw_s (by decide +kernel)
theorem m_78 : (.methodLink "HeadDesk$Reader" 188 ⟨"java/lang/String", "length", "()I"⟩ : Cond) ∈ aw := aw_2 (i := 30) rfl rfl
theorem m_79 : (.code ⟨"java/lang/String", "length", "()I"⟩ prog_11_method_54_code 1 (some .int) : Cond) ∈ aw := aw_2 (i := 33) rfl rfl
theorem m_80 : (.instanceMethod ⟨"java/lang/String", "length", "()I"⟩ : Cond) ∈ aw := aw_2 (i := 31) rfl rfl
theorem m_81 : (.selects "java/lang/String" ⟨"java/lang/String", "length", "()I"⟩ ⟨"java/lang/String", "length", "()I"⟩ : Cond) ∈ aw := aw_2 (i := 32) rfl rfl
theorem m_82 : (.methodLink "HeadDesk$Reader" 192 ⟨"java/lang/String", "charAt", "(I)C"⟩ : Cond) ∈ aw := aw_2 (i := 48) rfl rfl
theorem m_83 : (.code ⟨"java/lang/String", "charAt", "(I)C"⟩ prog_11_method_56_code 2 (some .char) : Cond) ∈ aw := aw_2 (i := 51) rfl rfl
theorem m_84 : (.instanceMethod ⟨"java/lang/String", "charAt", "(I)C"⟩ : Cond) ∈ aw := aw_2 (i := 49) rfl rfl
theorem m_85 : (.selects "java/lang/String" ⟨"java/lang/String", "charAt", "(I)C"⟩ ⟨"java/lang/String", "charAt", "(I)C"⟩ : Cond) ∈ aw := aw_2 (i := 50) rfl rfl
