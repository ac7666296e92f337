theorem m_1_0 : (.initialized "HeadDeskLaw" : Cond) ∈ aw := aw_1 (i := 0) rfl rfl
theorem m_1_1 : (.initialized "HeadDesk" : Cond) ∈ aw := aw_1 (i := 1) rfl rfl
theorem m_1_2 : (.initialized "HeadDesk$Tape" : Cond) ∈ aw := aw_1 (i := 2) rfl rfl
theorem m_1_3 : (.initialized "HeadDesk$Reader" : Cond) ∈ aw := aw_1 (i := 3) rfl rfl
theorem m_1_4 : (.initialized "HeadDesk$Head" : Cond) ∈ aw := aw_1 (i := 4) rfl rfl
theorem m_1_5 : (.initialized "HeadDeskModel" : Cond) ∈ aw := aw_1 (i := 5) rfl rfl
theorem m_1_6 : (.initialized "java/lang/Throwable" : Cond) ∈ aw := aw_1 (i := 6) rfl rfl
theorem m_1_7 : (.initialized "java/lang/Exception" : Cond) ∈ aw := aw_1 (i := 7) rfl rfl
theorem m_1_8 : (.initialized "java/lang/RuntimeException" : Cond) ∈ aw := aw_1 (i := 8) rfl rfl
theorem m_1_9 : (.initialized "java/lang/IllegalArgumentException" : Cond) ∈ aw := aw_1 (i := 9) rfl rfl
theorem m_1_10 : (.initialized "java/lang/System" : Cond) ∈ aw := aw_1 (i := 10) rfl rfl
theorem m_1_11 : (.initialized "java/lang/String" : Cond) ∈ aw := aw_1 (i := 11) rfl rfl
theorem m_1_12 : (.initialized "java/lang/StringLatin1" : Cond) ∈ aw := aw_1 (i := 12) rfl rfl
theorem m_1_13 : (.initialized "jdk/internal/util/Preconditions" : Cond) ∈ aw := aw_1 (i := 13) rfl rfl
theorem m_1_14 : (.initialized "java/lang/StringUTF16" : Cond) ∈ aw := aw_1 (i := 14) rfl rfl
theorem m_1_15 : (.initialized "java/lang/Math" : Cond) ∈ aw := aw_1 (i := 15) rfl rfl
theorem m_1_16 : (.classLink "HeadDeskLaw" 8 "HeadDesk" : Cond) ∈ aw := aw_1 (i := 16) rfl rfl
theorem m_1_17 : (.instantiable "HeadDesk" 5 : Cond) ∈ aw := aw_1 (i := 17) rfl rfl
theorem m_1_18 : (.methodLink "HeadDeskLaw" 15 ⟨"HeadDesk", "<init>", "()V"⟩ : Cond) ∈ aw := aw_1 (i := 18) rfl rfl
theorem m_1_19 : (.instanceMethod ⟨"HeadDesk", "<init>", "()V"⟩ : Cond) ∈ aw := aw_1 (i := 19) rfl rfl
theorem m_1_20 : (.code ⟨"HeadDesk", "<init>", "()V"⟩ prog_1_method_1_code 1 none : Cond) ∈ aw := aw_1 (i := 20) rfl rfl
theorem m_1_21 : (.methodLink "HeadDesk" 1 ⟨"java/lang/Object", "<init>", "()V"⟩ : Cond) ∈ aw := aw_1 (i := 21) rfl rfl
theorem m_1_22 : (.instanceMethod ⟨"java/lang/Object", "<init>", "()V"⟩ : Cond) ∈ aw := aw_1 (i := 22) rfl rfl
theorem m_1_23 : (.code ⟨"java/lang/Object", "<init>", "()V"⟩ object_method_1_code 1 none : Cond) ∈ aw := aw_1 (i := 23) rfl rfl
theorem m_1_24 : (.classLink "HeadDesk" 7 "HeadDesk$Tape" : Cond) ∈ aw := aw_1 (i := 24) rfl rfl
theorem m_1_25 : (.instantiable "HeadDesk$Tape" 2 : Cond) ∈ aw := aw_1 (i := 25) rfl rfl
theorem m_1_27 : (.instanceMethod ⟨"HeadDesk$Tape", "<init>", "()V"⟩ : Cond) ∈ aw := aw_1 (i := 27) rfl rfl
theorem m_1_28 : (.code ⟨"HeadDesk$Tape", "<init>", "()V"⟩ prog_4_method_1_code 1 none : Cond) ∈ aw := aw_1 (i := 28) rfl rfl
theorem m_1_29 : (.methodLink "HeadDesk$Tape" 1 ⟨"java/lang/Object", "<init>", "()V"⟩ : Cond) ∈ aw := aw_1 (i := 29) rfl rfl
theorem m_1_30 : (.fieldLink "HeadDesk$Tape" 9 "HeadDesk$Tape" "marks" "[C" : Cond) ∈ aw := aw_1 (i := 30) rfl rfl
theorem m_1_31 : (.fieldLink "HeadDesk$Tape" 13 "HeadDesk$Tape" "length" "I" : Cond) ∈ aw := aw_1 (i := 31) rfl rfl
theorem m_1_37 : (.arrayClass .char : Cond) ∈ aw := aw_1 (i := 37) rfl rfl
theorem m_1_38 : (.classLink "HeadDesk" 16 "HeadDesk$Reader" : Cond) ∈ aw := aw_1 (i := 38) rfl rfl
theorem m_1_39 : (.instantiable "HeadDesk$Reader" 11 : Cond) ∈ aw := aw_1 (i := 39) rfl rfl
theorem m_1_40 : (.methodLink "HeadDesk" 18 ⟨"HeadDesk$Reader", "<init>", "(LHeadDesk$Tape;)V"⟩ : Cond) ∈ aw := aw_1 (i := 40) rfl rfl
theorem m_1_41 : (.instanceMethod ⟨"HeadDesk$Reader", "<init>", "(LHeadDesk$Tape;)V"⟩ : Cond) ∈ aw := aw_1 (i := 41) rfl rfl
theorem m_1_42 : (.code ⟨"HeadDesk$Reader", "<init>", "(LHeadDesk$Tape;)V"⟩ prog_3_method_1_code 2 none : Cond) ∈ aw := aw_1 (i := 42) rfl rfl
theorem m_1_43 : (.methodLink "HeadDesk$Reader" 5 ⟨"java/lang/Object", "<init>", "()V"⟩ : Cond) ∈ aw := aw_1 (i := 43) rfl rfl
theorem m_1_44 : (.classLink "HeadDesk$Reader" 20 "HeadDesk$Head" : Cond) ∈ aw := aw_1 (i := 44) rfl rfl
theorem m_1_45 : (.instantiable "HeadDesk$Head" 2 : Cond) ∈ aw := aw_1 (i := 45) rfl rfl
theorem m_1_47 : (.instanceMethod ⟨"HeadDesk$Head", "<init>", "()V"⟩ : Cond) ∈ aw := aw_1 (i := 47) rfl rfl
theorem m_1_48 : (.code ⟨"HeadDesk$Head", "<init>", "()V"⟩ prog_2_method_1_code 1 none : Cond) ∈ aw := aw_1 (i := 48) rfl rfl
theorem m_1_49 : (.methodLink "HeadDesk$Head" 3 ⟨"java/lang/Object", "<init>", "()V"⟩ : Cond) ∈ aw := aw_1 (i := 49) rfl rfl
theorem m_1_50 : (.fieldLink "HeadDesk$Head" 9 "HeadDesk$Head" "AT_FIRST" "[I" : Cond) ∈ aw := aw_1 (i := 50) rfl rfl
theorem m_1_52 : (.fieldLink "HeadDesk$Head" 15 "HeadDesk$Head" "values" "[I" : Cond) ∈ aw := aw_1 (i := 52) rfl rfl
theorem m_1_53 : (.fieldLink "HeadDesk$Head" 18 "HeadDesk$Head" "versions" "[I" : Cond) ∈ aw := aw_1 (i := 53) rfl rfl
theorem m_1_59 : (.arrayClass .int : Cond) ∈ aw := aw_1 (i := 59) rfl rfl
theorem m_1_60 : (.fieldLink "HeadDesk$Reader" 49 "HeadDesk$Reader" "tape" "LHeadDesk$Tape;" : Cond) ∈ aw := aw_1 (i := 60) rfl rfl
theorem m_1_61 : (.fieldLink "HeadDesk$Reader" 13 "HeadDesk$Reader" "nameStarts" "[I" : Cond) ∈ aw := aw_1 (i := 61) rfl rfl
theorem m_1_62 : (.fieldLink "HeadDesk$Reader" 17 "HeadDesk$Reader" "nameEnds" "[I" : Cond) ∈ aw := aw_1 (i := 62) rfl rfl
theorem m_1_63 : (.fieldLink "HeadDesk$Reader" 23 "HeadDesk$Reader" "draft" "LHeadDesk$Head;" : Cond) ∈ aw := aw_1 (i := 63) rfl rfl
theorem m_1_64 : (.fieldLink "HeadDesk$Reader" 27 "HeadDesk$Reader" "names" "I" : Cond) ∈ aw := aw_1 (i := 64) rfl rfl
theorem m_1_65 : (.fieldLink "HeadDesk$Reader" 31 "HeadDesk$Reader" "kind" "I" : Cond) ∈ aw := aw_1 (i := 65) rfl rfl
theorem m_1_66 : (.fieldLink "HeadDesk$Reader" 34 "HeadDesk$Reader" "place" "I" : Cond) ∈ aw := aw_1 (i := 66) rfl rfl
theorem m_1_67 : (.fieldLink "HeadDesk$Reader" 37 "HeadDesk$Reader" "stuck" "I" : Cond) ∈ aw := aw_1 (i := 67) rfl rfl
theorem m_1_68 : (.fieldLink "HeadDesk$Reader" 40 "HeadDesk$Reader" "number" "I" : Cond) ∈ aw := aw_1 (i := 68) rfl rfl
theorem m_1_69 : (.fieldLink "HeadDesk$Reader" 43 "HeadDesk$Reader" "wordStart" "I" : Cond) ∈ aw := aw_1 (i := 69) rfl rfl
theorem m_1_70 : (.fieldLink "HeadDesk$Reader" 46 "HeadDesk$Reader" "wordEnd" "I" : Cond) ∈ aw := aw_1 (i := 70) rfl rfl
theorem m_1_94 : (.classLink "HeadDesk" 25 "HeadDesk$Head" : Cond) ∈ aw := aw_1 (i := 94) rfl rfl
theorem m_1_96 : (.fieldLink "HeadDesk" 10 "HeadDesk" "tape" "LHeadDesk$Tape;" : Cond) ∈ aw := aw_1 (i := 96) rfl rfl
theorem m_1_97 : (.fieldLink "HeadDesk" 21 "HeadDesk" "reader" "LHeadDesk$Reader;" : Cond) ∈ aw := aw_1 (i := 97) rfl rfl
theorem m_1_98 : (.fieldLink "HeadDesk" 28 "HeadDesk" "good" "LHeadDesk$Head;" : Cond) ∈ aw := aw_1 (i := 98) rfl rfl
theorem m_1_99 : (.fieldLink "HeadDesk" 32 "HeadDesk" "goodTexts" "I" : Cond) ∈ aw := aw_1 (i := 99) rfl rfl
theorem m_1_100 : (.fieldLink "HeadDesk" 36 "HeadDesk" "latestFault" "I" : Cond) ∈ aw := aw_1 (i := 100) rfl rfl
theorem m_1_112 : (.methodLink "HeadDeskLaw" 21 ⟨"HeadDesk", "type", "(JI)Z"⟩ : Cond) ∈ aw := aw_1 (i := 112) rfl rfl
theorem m_1_113 : (.instanceMethod ⟨"HeadDesk", "type", "(JI)Z"⟩ : Cond) ∈ aw := aw_1 (i := 113) rfl rfl
theorem m_1_114 : (.selects "HeadDesk" ⟨"HeadDesk", "type", "(JI)Z"⟩ ⟨"HeadDesk", "type", "(JI)Z"⟩ : Cond) ∈ aw := aw_1 (i := 114) rfl rfl
theorem m_1_115 : (.code ⟨"HeadDesk", "type", "(JI)Z"⟩ prog_1_method_2_code 4 (some .boolean) : Cond) ∈ aw := aw_1 (i := 115) rfl rfl
theorem m_1_116 : (.methodLink "HeadDesk" 39 ⟨"HeadDesk$Tape", "append", "(JI)Z"⟩ : Cond) ∈ aw := aw_1 (i := 116) rfl rfl
theorem m_1_117 : (.instanceMethod ⟨"HeadDesk$Tape", "append", "(JI)Z"⟩ : Cond) ∈ aw := aw_1 (i := 117) rfl rfl
theorem m_1_118 : (.selects "HeadDesk$Tape" ⟨"HeadDesk$Tape", "append", "(JI)Z"⟩ ⟨"HeadDesk$Tape", "append", "(JI)Z"⟩ : Cond) ∈ aw := aw_1 (i := 118) rfl rfl
theorem m_1_119 : (.code ⟨"HeadDesk$Tape", "append", "(JI)Z"⟩ prog_4_method_2_code 5 (some .boolean) : Cond) ∈ aw := aw_1 (i := 119) rfl rfl
theorem m_1_120 : (.methodLink "HeadDesk$Tape" 17 ⟨"HeadDesk$Tape", "byteOf", "(JI)I"⟩ : Cond) ∈ aw := aw_1 (i := 120) rfl rfl
theorem m_1_121 : (.static ⟨"HeadDesk$Tape", "byteOf", "(JI)I"⟩ : Cond) ∈ aw := aw_1 (i := 121) rfl rfl
theorem m_1_122 : (.code ⟨"HeadDesk$Tape", "byteOf", "(JI)I"⟩ prog_4_method_5_code 3 (some .int) : Cond) ∈ aw := aw_1 (i := 122) rfl rfl
theorem m_1_123 : (.methodLink "HeadDesk$Tape" 21 ⟨"HeadDesk$Tape", "mayStand", "(I)Z"⟩ : Cond) ∈ aw := aw_1 (i := 123) rfl rfl
theorem m_1_124 : (.static ⟨"HeadDesk$Tape", "mayStand", "(I)Z"⟩ : Cond) ∈ aw := aw_1 (i := 124) rfl rfl
theorem m_1_125 : (.code ⟨"HeadDesk$Tape", "mayStand", "(I)Z"⟩ prog_4_method_6_code 1 (some .boolean) : Cond) ∈ aw := aw_1 (i := 125) rfl rfl
theorem m_1_126 : (.methodLink "HeadDeskLaw" 36 ⟨"HeadDesk", "fault", "()I"⟩ : Cond) ∈ aw := aw_1 (i := 126) rfl rfl
theorem m_1_127 : (.instanceMethod ⟨"HeadDesk", "fault", "()I"⟩ : Cond) ∈ aw := aw_1 (i := 127) rfl rfl
theorem m_1_128 : (.selects "HeadDesk" ⟨"HeadDesk", "fault", "()I"⟩ ⟨"HeadDesk", "fault", "()I"⟩ : Cond) ∈ aw := aw_1 (i := 128) rfl rfl
theorem m_1_129 : (.code ⟨"HeadDesk", "fault", "()I"⟩ prog_1_method_4_code 1 (some .int) : Cond) ∈ aw := aw_1 (i := 129) rfl rfl
theorem m_1_130 : (.methodLink "HeadDeskLaw" 40 ⟨"HeadDesk", "told", "(I)I"⟩ : Cond) ∈ aw := aw_1 (i := 130) rfl rfl
theorem m_1_131 : (.instanceMethod ⟨"HeadDesk", "told", "(I)I"⟩ : Cond) ∈ aw := aw_1 (i := 131) rfl rfl
theorem m_1_132 : (.selects "HeadDesk" ⟨"HeadDesk", "told", "(I)I"⟩ ⟨"HeadDesk", "told", "(I)I"⟩ : Cond) ∈ aw := aw_1 (i := 132) rfl rfl
theorem m_1_133 : (.code ⟨"HeadDesk", "told", "(I)I"⟩ prog_1_method_5_code 2 (some .int) : Cond) ∈ aw := aw_1 (i := 133) rfl rfl
theorem m_1_134 : (.methodLink "HeadDesk" 67 ⟨"HeadDesk$Head", "get", "(I)I"⟩ : Cond) ∈ aw := aw_1 (i := 134) rfl rfl
theorem m_1_135 : (.instanceMethod ⟨"HeadDesk$Head", "get", "(I)I"⟩ : Cond) ∈ aw := aw_1 (i := 135) rfl rfl
theorem m_1_136 : (.selects "HeadDesk$Head" ⟨"HeadDesk$Head", "get", "(I)I"⟩ ⟨"HeadDesk$Head", "get", "(I)I"⟩ : Cond) ∈ aw := aw_1 (i := 136) rfl rfl
theorem m_1_137 : (.code ⟨"HeadDesk$Head", "get", "(I)I"⟩ prog_2_method_3_code 2 (some .int) : Cond) ∈ aw := aw_1 (i := 137) rfl rfl
theorem m_1_138 : (.methodLink "HeadDeskLaw" 44 ⟨"HeadDesk", "matches", "(I)Z"⟩ : Cond) ∈ aw := aw_1 (i := 138) rfl rfl
theorem m_1_139 : (.instanceMethod ⟨"HeadDesk", "matches", "(I)Z"⟩ : Cond) ∈ aw := aw_1 (i := 139) rfl rfl
theorem m_1_140 : (.selects "HeadDesk" ⟨"HeadDesk", "matches", "(I)Z"⟩ ⟨"HeadDesk", "matches", "(I)Z"⟩ : Cond) ∈ aw := aw_1 (i := 140) rfl rfl
theorem m_1_141 : (.code ⟨"HeadDesk", "matches", "(I)Z"⟩ prog_1_method_6_code 2 (some .boolean) : Cond) ∈ aw := aw_1 (i := 141) rfl rfl
theorem m_1_142 : (.methodLink "HeadDesk" 71 ⟨"HeadDesk$Head", "coversVersion", "(I)Z"⟩ : Cond) ∈ aw := aw_1 (i := 142) rfl rfl
theorem m_1_143 : (.instanceMethod ⟨"HeadDesk$Head", "coversVersion", "(I)Z"⟩ : Cond) ∈ aw := aw_1 (i := 143) rfl rfl
theorem m_1_144 : (.selects "HeadDesk$Head" ⟨"HeadDesk$Head", "coversVersion", "(I)Z"⟩ ⟨"HeadDesk$Head", "coversVersion", "(I)Z"⟩ : Cond) ∈ aw := aw_1 (i := 144) rfl rfl
theorem m_1_145 : (.code ⟨"HeadDesk$Head", "coversVersion", "(I)Z"⟩ prog_2_method_8_code 2 (some .boolean) : Cond) ∈ aw := aw_1 (i := 145) rfl rfl
theorem m_1_146 : (.methodLink "HeadDesk$Head" 27 ⟨"HeadDesk$Head", "hasVersion", "(I)Z"⟩ : Cond) ∈ aw := aw_1 (i := 146) rfl rfl
theorem m_1_148 : (.instanceMethod ⟨"HeadDesk$Head", "hasVersion", "(I)Z"⟩ : Cond) ∈ aw := aw_1 (i := 148) rfl rfl
theorem m_1_149 : (.code ⟨"HeadDesk$Head", "hasVersion", "(I)Z"⟩ prog_2_method_9_code 3 (some .boolean) : Cond) ∈ aw := aw_1 (i := 149) rfl rfl
theorem m_1_150 : (.methodLink "HeadDeskLaw" 49 ⟨"HeadDesk", "bytes", "(II)I"⟩ : Cond) ∈ aw := aw_1 (i := 150) rfl rfl
theorem m_1_151 : (.instanceMethod ⟨"HeadDesk", "bytes", "(II)I"⟩ : Cond) ∈ aw := aw_1 (i := 151) rfl rfl
theorem m_1_152 : (.selects "HeadDesk" ⟨"HeadDesk", "bytes", "(II)I"⟩ ⟨"HeadDesk", "bytes", "(II)I"⟩ : Cond) ∈ aw := aw_1 (i := 152) rfl rfl
theorem m_1_153 : (.code ⟨"HeadDesk", "bytes", "(II)I"⟩ prog_1_method_7_code 6 (some .int) : Cond) ∈ aw := aw_1 (i := 153) rfl rfl
theorem m_1_154 : (.methodLink "HeadDesk" 74 ⟨"HeadDesk$Head", "firstByte", "(I)I"⟩ : Cond) ∈ aw := aw_1 (i := 154) rfl rfl
theorem m_1_155 : (.instanceMethod ⟨"HeadDesk$Head", "firstByte", "(I)I"⟩ : Cond) ∈ aw := aw_1 (i := 155) rfl rfl
theorem m_1_156 : (.selects "HeadDesk$Head" ⟨"HeadDesk$Head", "firstByte", "(I)I"⟩ ⟨"HeadDesk$Head", "firstByte", "(I)I"⟩ : Cond) ∈ aw := aw_1 (i := 156) rfl rfl
theorem m_1_157 : (.code ⟨"HeadDesk$Head", "firstByte", "(I)I"⟩ prog_2_method_10_code 2 (some .int) : Cond) ∈ aw := aw_1 (i := 157) rfl rfl
theorem m_1_158 : (.methodLink "HeadDesk$Head" 31 ⟨"java/lang/Math", "min", "(II)I"⟩ : Cond) ∈ aw := aw_1 (i := 158) rfl rfl
theorem m_1_159 : (.static ⟨"java/lang/Math", "min", "(II)I"⟩ : Cond) ∈ aw := aw_1 (i := 159) rfl rfl
theorem m_1_160 : (.code ⟨"java/lang/Math", "min", "(II)I"⟩ prog_9_method_69_code 2 (some .int) : Cond) ∈ aw := aw_1 (i := 160) rfl rfl
theorem m_1_161 : (.methodLink "HeadDesk" 77 ⟨"HeadDesk$Head", "lastByte", "(I)I"⟩ : Cond) ∈ aw := aw_1 (i := 161) rfl rfl
theorem m_1_162 : (.instanceMethod ⟨"HeadDesk$Head", "lastByte", "(I)I"⟩ : Cond) ∈ aw := aw_1 (i := 162) rfl rfl
theorem m_1_163 : (.selects "HeadDesk$Head" ⟨"HeadDesk$Head", "lastByte", "(I)I"⟩ ⟨"HeadDesk$Head", "lastByte", "(I)I"⟩ : Cond) ∈ aw := aw_1 (i := 163) rfl rfl
theorem m_1_164 : (.code ⟨"HeadDesk$Head", "lastByte", "(I)I"⟩ prog_2_method_11_code 2 (some .int) : Cond) ∈ aw := aw_1 (i := 164) rfl rfl
theorem m_1_165 : (.methodLink "HeadDesk" 80 ⟨"java/lang/Math", "max", "(II)I"⟩ : Cond) ∈ aw := aw_1 (i := 165) rfl rfl
theorem m_1_166 : (.static ⟨"java/lang/Math", "max", "(II)I"⟩ : Cond) ∈ aw := aw_1 (i := 166) rfl rfl
theorem m_1_167 : (.code ⟨"java/lang/Math", "max", "(II)I"⟩ prog_9_method_65_code 2 (some .int) : Cond) ∈ aw := aw_1 (i := 167) rfl rfl
theorem m_1_168 : (.methodLink "HeadDeskLaw" 26 ⟨"HeadDeskLaw", "read", "(LHeadDesk;I[J)I"⟩ : Cond) ∈ aw := aw_1 (i := 168) rfl rfl
theorem m_1_169 : (.static ⟨"HeadDeskLaw", "read", "(LHeadDesk;I[J)I"⟩ : Cond) ∈ aw := aw_1 (i := 169) rfl rfl
theorem m_1_170 : (.codeWith ⟨"HeadDeskLaw", "read", "(LHeadDesk;I[J)I"⟩ method_3_code 4 (some .int) [(0, 9, 12, 13)] : Cond) ∈ aw := aw_1 (i := 170) rfl rfl
theorem m_1_171 : (.classLink "HeadDeskLaw" 13 "java/lang/IllegalArgumentException" : Cond) ∈ aw := aw_1 (i := 171) rfl rfl
theorem m_1_172 : (.methodLink "HeadDeskLaw" 7 ⟨"HeadDesk", "read", "(I)I"⟩ : Cond) ∈ aw := aw_1 (i := 172) rfl rfl
theorem m_1_173 : (.instanceMethod ⟨"HeadDesk", "read", "(I)I"⟩ : Cond) ∈ aw := aw_1 (i := 173) rfl rfl
theorem m_1_174 : (.selects "HeadDesk" ⟨"HeadDesk", "read", "(I)I"⟩ ⟨"HeadDesk", "read", "(I)I"⟩ : Cond) ∈ aw := aw_1 (i := 174) rfl rfl
theorem m_1_175 : (.code ⟨"HeadDesk", "read", "(I)I"⟩ prog_1_method_3_code 3 (some .int) : Cond) ∈ aw := aw_1 (i := 175) rfl rfl
theorem m_1_176 : (.classLink "HeadDesk" 43 "java/lang/IllegalArgumentException" : Cond) ∈ aw := aw_1 (i := 176) rfl rfl
theorem m_1_177 : (.instantiable "java/lang/IllegalArgumentException" 6 : Cond) ∈ aw := aw_1 (i := 177) rfl rfl
theorem m_1_185 : (.selects "java/lang/IllegalArgumentException" ⟨"java/lang/Throwable", "fillInStackTrace", "(I)Ljava/lang/Throwable;"⟩ ⟨"java/lang/Throwable", "fillInStackTrace", "(I)Ljava/lang/Throwable;"⟩ : Cond) ∈ aw := aw_1 (i := 185) rfl rfl
theorem m_1_186 : (.selects "java/lang/IllegalArgumentException" ⟨"java/lang/Throwable", "fillInStackTrace", "()Ljava/lang/Throwable;"⟩ ⟨"java/lang/Throwable", "fillInStackTrace", "()Ljava/lang/Throwable;"⟩ : Cond) ∈ aw := aw_1 (i := 186) rfl rfl
theorem m_1_197 : (.fieldLink "java/lang/Throwable" 198 "java/lang/Throwable" "backtrace" "Ljava/lang/Object;" : Cond) ∈ aw := aw_1 (i := 197) rfl rfl
theorem m_1_199 : (.instanceMethod ⟨"java/lang/Throwable", "<init>", "()V"⟩ : Cond) ∈ aw := aw_1 (i := 199) rfl rfl
theorem m_1_200 : (.code ⟨"java/lang/Throwable", "<init>", "()V"⟩ prog_15_method_1_code 1 none : Cond) ∈ aw := aw_1 (i := 200) rfl rfl
theorem m_1_201 : (.methodLink "java/lang/Throwable" 1 ⟨"java/lang/Object", "<init>", "()V"⟩ : Cond) ∈ aw := aw_1 (i := 201) rfl rfl
theorem m_1_202 : (.fieldLink "java/lang/Throwable" 13 "java/lang/Throwable" "UNASSIGNED_STACK" "[Ljava/lang/StackTraceElement;" : Cond) ∈ aw := aw_1 (i := 202) rfl rfl
theorem m_1_204 : (.fieldLink "java/lang/Throwable" 20 "java/lang/Throwable" "SUPPRESSED_SENTINEL" "Ljava/util/List;" : Cond) ∈ aw := aw_1 (i := 204) rfl rfl
theorem m_1_206 : (.methodLink "java/lang/Throwable" 27 ⟨"java/lang/Throwable", "fillInStackTrace", "()Ljava/lang/Throwable;"⟩ : Cond) ∈ aw := aw_1 (i := 206) rfl rfl
theorem m_1_207 : (.instanceMethod ⟨"java/lang/Throwable", "fillInStackTrace", "()Ljava/lang/Throwable;"⟩ : Cond) ∈ aw := aw_1 (i := 207) rfl rfl
theorem m_1_210 : (.methodLink "java/lang/Throwable" 202 ⟨"java/lang/Throwable", "fillInStackTrace", "(I)Ljava/lang/Throwable;"⟩ : Cond) ∈ aw := aw_1 (i := 210) rfl rfl
theorem m_1_212 : (.instanceMethod ⟨"java/lang/Throwable", "fillInStackTrace", "(I)Ljava/lang/Throwable;"⟩ : Cond) ∈ aw := aw_1 (i := 212) rfl rfl
theorem m_1_213 : (.instantiable "java/lang/Throwable" 6 : Cond) ∈ aw := aw_1 (i := 213) rfl rfl
theorem m_1_214 : (.native ⟨"java/lang/Throwable", "fillInStackTrace", "(I)Ljava/lang/Throwable;"⟩ : Cond) ∈ aw := aw_1 (i := 214) rfl rfl
theorem m_1_216 : (.methodLink "HeadDesk" 47 ⟨"java/lang/IllegalArgumentException", "<init>", "(Ljava/lang/String;)V"⟩ : Cond) ∈ aw := aw_1 (i := 216) rfl rfl
theorem m_1_217 : (.instanceMethod ⟨"java/lang/IllegalArgumentException", "<init>", "(Ljava/lang/String;)V"⟩ : Cond) ∈ aw := aw_1 (i := 217) rfl rfl
theorem m_1_218 : (.code ⟨"java/lang/IllegalArgumentException", "<init>", "(Ljava/lang/String;)V"⟩ prog_8_method_2_code 2 none : Cond) ∈ aw := aw_1 (i := 218) rfl rfl
theorem m_1_219 : (.methodLink "java/lang/IllegalArgumentException" 7 ⟨"java/lang/RuntimeException", "<init>", "(Ljava/lang/String;)V"⟩ : Cond) ∈ aw := aw_1 (i := 219) rfl rfl
theorem m_1_220 : (.instanceMethod ⟨"java/lang/RuntimeException", "<init>", "(Ljava/lang/String;)V"⟩ : Cond) ∈ aw := aw_1 (i := 220) rfl rfl
theorem m_1_221 : (.code ⟨"java/lang/RuntimeException", "<init>", "(Ljava/lang/String;)V"⟩ prog_10_method_2_code 2 none : Cond) ∈ aw := aw_1 (i := 221) rfl rfl
theorem m_1_222 : (.methodLink "java/lang/RuntimeException" 7 ⟨"java/lang/Exception", "<init>", "(Ljava/lang/String;)V"⟩ : Cond) ∈ aw := aw_1 (i := 222) rfl rfl
theorem m_1_223 : (.instanceMethod ⟨"java/lang/Exception", "<init>", "(Ljava/lang/String;)V"⟩ : Cond) ∈ aw := aw_1 (i := 223) rfl rfl
theorem m_1_224 : (.code ⟨"java/lang/Exception", "<init>", "(Ljava/lang/String;)V"⟩ prog_7_method_2_code 2 none : Cond) ∈ aw := aw_1 (i := 224) rfl rfl
theorem m_1_225 : (.methodLink "java/lang/Exception" 7 ⟨"java/lang/Throwable", "<init>", "(Ljava/lang/String;)V"⟩ : Cond) ∈ aw := aw_1 (i := 225) rfl rfl
theorem m_1_226 : (.instanceMethod ⟨"java/lang/Throwable", "<init>", "(Ljava/lang/String;)V"⟩ : Cond) ∈ aw := aw_1 (i := 226) rfl rfl
theorem m_1_227 : (.code ⟨"java/lang/Throwable", "<init>", "(Ljava/lang/String;)V"⟩ prog_15_method_2_code 2 none : Cond) ∈ aw := aw_1 (i := 227) rfl rfl
theorem m_1_229 : (.fieldLink "java/lang/Throwable" 31 "java/lang/Throwable" "detailMessage" "Ljava/lang/String;" : Cond) ∈ aw := aw_1 (i := 229) rfl rfl
theorem m_1_230 : (.fieldLink "java/lang/Throwable" 7 "java/lang/Throwable" "cause" "Ljava/lang/Throwable;" : Cond) ∈ aw := aw_1 (i := 230) rfl rfl
theorem m_1_231 : (.fieldLink "java/lang/Throwable" 17 "java/lang/Throwable" "stackTrace" "[Ljava/lang/StackTraceElement;" : Cond) ∈ aw := aw_1 (i := 231) rfl rfl
theorem m_1_232 : (.fieldLink "java/lang/Throwable" 24 "java/lang/Throwable" "suppressedExceptions" "Ljava/util/List;" : Cond) ∈ aw := aw_1 (i := 232) rfl rfl
theorem m_2_1 : (.arrayClass .byte : Cond) ∈ aw := aw_2 (i := 1) rfl rfl
theorem m_2_2 : (.methodLink "HeadDesk" 50 ⟨"HeadDesk$Reader", "readText", "(I)Z"⟩ : Cond) ∈ aw := aw_2 (i := 2) rfl rfl
theorem m_2_3 : (.instanceMethod ⟨"HeadDesk$Reader", "readText", "(I)Z"⟩ : Cond) ∈ aw := aw_2 (i := 3) rfl rfl
theorem m_2_4 : (.selects "HeadDesk$Reader" ⟨"HeadDesk$Reader", "readText", "(I)Z"⟩ ⟨"HeadDesk$Reader", "readText", "(I)Z"⟩ : Cond) ∈ aw := aw_2 (i := 4) rfl rfl
theorem m_2_5 : (.code ⟨"HeadDesk$Reader", "readText", "(I)Z"⟩ prog_3_method_4_code 3 (some .boolean) : Cond) ∈ aw := aw_2 (i := 5) rfl rfl
theorem m_2_6 : (.methodLink "HeadDesk$Reader" 53 ⟨"HeadDesk$Head", "clear", "()V"⟩ : Cond) ∈ aw := aw_2 (i := 6) rfl rfl
theorem m_2_7 : (.instanceMethod ⟨"HeadDesk$Head", "clear", "()V"⟩ : Cond) ∈ aw := aw_2 (i := 7) rfl rfl
theorem m_2_8 : (.selects "HeadDesk$Head" ⟨"HeadDesk$Head", "clear", "()V"⟩ ⟨"HeadDesk$Head", "clear", "()V"⟩ : Cond) ∈ aw := aw_2 (i := 8) rfl rfl
theorem m_2_9 : (.code ⟨"HeadDesk$Head", "clear", "()V"⟩ prog_2_method_2_code 1 none : Cond) ∈ aw := aw_2 (i := 9) rfl rfl
theorem m_2_10 : (.methodLink "HeadDesk$Head" 21 ⟨"java/lang/System", "arraycopy", "(Ljava/lang/Object;ILjava/lang/Object;II)V"⟩ : Cond) ∈ aw := aw_2 (i := 10) rfl rfl
theorem m_2_11 : (.static ⟨"java/lang/System", "arraycopy", "(Ljava/lang/Object;ILjava/lang/Object;II)V"⟩ : Cond) ∈ aw := aw_2 (i := 11) rfl rfl
theorem m_2_12 : (.native ⟨"java/lang/System", "arraycopy", "(Ljava/lang/Object;ILjava/lang/Object;II)V"⟩ : Cond) ∈ aw := aw_2 (i := 12) rfl rfl
theorem m_2_13 : (.methodLink "HeadDesk$Reader" 56 ⟨"HeadDesk$Reader", "readFirstLine", "()Z"⟩ : Cond) ∈ aw := aw_2 (i := 13) rfl rfl
theorem m_2_15 : (.instanceMethod ⟨"HeadDesk$Reader", "readFirstLine", "()Z"⟩ : Cond) ∈ aw := aw_2 (i := 15) rfl rfl
theorem m_2_16 : (.code ⟨"HeadDesk$Reader", "readFirstLine", "()Z"⟩ prog_3_method_5_code 1 (some .boolean) : Cond) ∈ aw := aw_2 (i := 16) rfl rfl
theorem m_2_17 : (.methodLink "HeadDesk$Reader" 81 ⟨"HeadDesk$Reader", "readVerb", "()Z"⟩ : Cond) ∈ aw := aw_2 (i := 17) rfl rfl
theorem m_2_19 : (.instanceMethod ⟨"HeadDesk$Reader", "readVerb", "()Z"⟩ : Cond) ∈ aw := aw_2 (i := 19) rfl rfl
theorem m_2_20 : (.code ⟨"HeadDesk$Reader", "readVerb", "()Z"⟩ prog_3_method_6_code 1 (some .boolean) : Cond) ∈ aw := aw_2 (i := 20) rfl rfl
theorem m_2_21 : (.methodLink "HeadDesk$Reader" 87 ⟨"HeadDesk$Head", "set", "(II)V"⟩ : Cond) ∈ aw := aw_2 (i := 21) rfl rfl
theorem m_2_22 : (.instanceMethod ⟨"HeadDesk$Head", "set", "(II)V"⟩ : Cond) ∈ aw := aw_2 (i := 22) rfl rfl
theorem m_2_23 : (.selects "HeadDesk$Head" ⟨"HeadDesk$Head", "set", "(II)V"⟩ ⟨"HeadDesk$Head", "set", "(II)V"⟩ : Cond) ∈ aw := aw_2 (i := 23) rfl rfl
theorem m_2_24 : (.code ⟨"HeadDesk$Head", "set", "(II)V"⟩ prog_2_method_4_code 3 none : Cond) ∈ aw := aw_2 (i := 24) rfl rfl
theorem m_2_26 : (.methodLink "HeadDesk$Reader" 93 ⟨"HeadDesk$Reader", "takeAll", "(Ljava/lang/String;)Z"⟩ : Cond) ∈ aw := aw_2 (i := 26) rfl rfl
theorem m_2_28 : (.instanceMethod ⟨"HeadDesk$Reader", "takeAll", "(Ljava/lang/String;)Z"⟩ : Cond) ∈ aw := aw_2 (i := 28) rfl rfl
theorem m_2_29 : (.code ⟨"HeadDesk$Reader", "takeAll", "(Ljava/lang/String;)Z"⟩ prog_3_method_23_code 3 (some .boolean) : Cond) ∈ aw := aw_2 (i := 29) rfl rfl
theorem m_2_30 : (.methodLink "HeadDesk$Reader" 188 ⟨"java/lang/String", "length", "()I"⟩ : Cond) ∈ aw := aw_2 (i := 30) rfl rfl
theorem m_2_31 : (.instanceMethod ⟨"java/lang/String", "length", "()I"⟩ : Cond) ∈ aw := aw_2 (i := 31) rfl rfl
theorem m_2_32 : (.selects "java/lang/String" ⟨"java/lang/String", "length", "()I"⟩ ⟨"java/lang/String", "length", "()I"⟩ : Cond) ∈ aw := aw_2 (i := 32) rfl rfl
theorem m_2_33 : (.code ⟨"java/lang/String", "length", "()I"⟩ prog_11_method_54_code 1 (some .int) : Cond) ∈ aw := aw_2 (i := 33) rfl rfl
theorem m_2_34 : (.methodLink "java/lang/String" 335 ⟨"java/lang/String", "coder", "()B"⟩ : Cond) ∈ aw := aw_2 (i := 34) rfl rfl
theorem m_2_35 : (.instanceMethod ⟨"java/lang/String", "coder", "()B"⟩ : Cond) ∈ aw := aw_2 (i := 35) rfl rfl
theorem m_2_36 : (.selects "java/lang/String" ⟨"java/lang/String", "coder", "()B"⟩ ⟨"java/lang/String", "coder", "()B"⟩ : Cond) ∈ aw := aw_2 (i := 36) rfl rfl
theorem m_2_37 : (.code ⟨"java/lang/String", "coder", "()B"⟩ prog_11_method_152_code 1 (some .byte) : Cond) ∈ aw := aw_2 (i := 37) rfl rfl
theorem m_2_38 : (.fieldLink "java/lang/String" 38 "java/lang/String" "COMPACT_STRINGS" "Z" : Cond) ∈ aw := aw_2 (i := 38) rfl rfl
theorem m_2_40 : (.methodLink "HeadDesk$Reader" 64 ⟨"HeadDesk$Reader", "mark", "()I"⟩ : Cond) ∈ aw := aw_2 (i := 40) rfl rfl
theorem m_2_42 : (.instanceMethod ⟨"HeadDesk$Reader", "mark", "()I"⟩ : Cond) ∈ aw := aw_2 (i := 42) rfl rfl
theorem m_2_43 : (.code ⟨"HeadDesk$Reader", "mark", "()I"⟩ prog_3_method_19_code 1 (some .int) : Cond) ∈ aw := aw_2 (i := 43) rfl rfl
theorem m_2_44 : (.methodLink "HeadDesk$Reader" 184 ⟨"HeadDesk$Tape", "markAt", "(I)I"⟩ : Cond) ∈ aw := aw_2 (i := 44) rfl rfl
theorem m_2_45 : (.instanceMethod ⟨"HeadDesk$Tape", "markAt", "(I)I"⟩ : Cond) ∈ aw := aw_2 (i := 45) rfl rfl
theorem m_2_46 : (.selects "HeadDesk$Tape" ⟨"HeadDesk$Tape", "markAt", "(I)I"⟩ ⟨"HeadDesk$Tape", "markAt", "(I)I"⟩ : Cond) ∈ aw := aw_2 (i := 46) rfl rfl
theorem m_2_47 : (.code ⟨"HeadDesk$Tape", "markAt", "(I)I"⟩ prog_4_method_4_code 2 (some .int) : Cond) ∈ aw := aw_2 (i := 47) rfl rfl
theorem m_2_48 : (.methodLink "HeadDesk$Reader" 192 ⟨"java/lang/String", "charAt", "(I)C"⟩ : Cond) ∈ aw := aw_2 (i := 48) rfl rfl
theorem m_2_49 : (.instanceMethod ⟨"java/lang/String", "charAt", "(I)C"⟩ : Cond) ∈ aw := aw_2 (i := 49) rfl rfl
theorem m_2_50 : (.selects "java/lang/String" ⟨"java/lang/String", "charAt", "(I)C"⟩ ⟨"java/lang/String", "charAt", "(I)C"⟩ : Cond) ∈ aw := aw_2 (i := 50) rfl rfl
theorem m_2_51 : (.code ⟨"java/lang/String", "charAt", "(I)C"⟩ prog_11_method_56_code 2 (some .char) : Cond) ∈ aw := aw_2 (i := 51) rfl rfl
theorem m_2_52 : (.methodLink "java/lang/String" 492 ⟨"java/lang/String", "isLatin1", "()Z"⟩ : Cond) ∈ aw := aw_2 (i := 52) rfl rfl
theorem m_2_53 : (.instanceMethod ⟨"java/lang/String", "isLatin1", "()Z"⟩ : Cond) ∈ aw := aw_2 (i := 53) rfl rfl
theorem m_2_54 : (.selects "java/lang/String" ⟨"java/lang/String", "isLatin1", "()Z"⟩ ⟨"java/lang/String", "isLatin1", "()Z"⟩ : Cond) ∈ aw := aw_2 (i := 54) rfl rfl
theorem m_2_55 : (.code ⟨"java/lang/String", "isLatin1", "()Z"⟩ prog_11_method_154_code 1 (some .boolean) : Cond) ∈ aw := aw_2 (i := 55) rfl rfl
theorem m_2_56 : (.methodLink "java/lang/String" 495 ⟨"java/lang/StringLatin1", "charAt", "([BI)C"⟩ : Cond) ∈ aw := aw_2 (i := 56) rfl rfl
theorem m_2_57 : (.static ⟨"java/lang/StringLatin1", "charAt", "([BI)C"⟩ : Cond) ∈ aw := aw_2 (i := 57) rfl rfl
theorem m_2_58 : (.code ⟨"java/lang/StringLatin1", "charAt", "([BI)C"⟩ prog_12_method_2_code 2 (some .char) : Cond) ∈ aw := aw_2 (i := 58) rfl rfl
theorem m_2_59 : (.methodLink "java/lang/StringLatin1" 9 ⟨"java/lang/String", "checkIndex", "(II)V"⟩ : Cond) ∈ aw := aw_2 (i := 59) rfl rfl
theorem m_2_60 : (.static ⟨"java/lang/String", "checkIndex", "(II)V"⟩ : Cond) ∈ aw := aw_2 (i := 60) rfl rfl
theorem m_2_61 : (.code ⟨"java/lang/String", "checkIndex", "(II)V"⟩ prog_11_method_155_code 2 none : Cond) ∈ aw := aw_2 (i := 61) rfl rfl
theorem m_2_62 : (.fieldLink "java/lang/String" 1053 "jdk/internal/util/Preconditions" "SIOOBE_FORMATTER" "Ljava/util/function/BiFunction;" : Cond) ∈ aw := aw_2 (i := 62) rfl rfl
theorem m_2_64 : (.methodLink "java/lang/String" 1059 ⟨"jdk/internal/util/Preconditions", "checkIndex", "(IILjava/util/function/BiFunction;)I"⟩ : Cond) ∈ aw := aw_2 (i := 64) rfl rfl
theorem m_2_65 : (.static ⟨"jdk/internal/util/Preconditions", "checkIndex", "(IILjava/util/function/BiFunction;)I"⟩ : Cond) ∈ aw := aw_2 (i := 65) rfl rfl
theorem m_2_66 : (.code ⟨"jdk/internal/util/Preconditions", "checkIndex", "(IILjava/util/function/BiFunction;)I"⟩ prog_16_method_11_code 3 (some .int) : Cond) ∈ aw := aw_2 (i := 66) rfl rfl
theorem m_2_67 : (.methodLink "java/lang/String" 498 ⟨"java/lang/StringUTF16", "charAt", "([BI)C"⟩ : Cond) ∈ aw := aw_2 (i := 67) rfl rfl
theorem m_2_68 : (.static ⟨"java/lang/StringUTF16", "charAt", "([BI)C"⟩ : Cond) ∈ aw := aw_2 (i := 68) rfl rfl
theorem m_2_69 : (.code ⟨"java/lang/StringUTF16", "charAt", "([BI)C"⟩ prog_13_method_83_code 2 (some .char) : Cond) ∈ aw := aw_2 (i := 69) rfl rfl
theorem m_2_70 : (.methodLink "java/lang/StringUTF16" 67 ⟨"java/lang/StringUTF16", "checkIndex", "(I[B)V"⟩ : Cond) ∈ aw := aw_2 (i := 70) rfl rfl
theorem m_2_71 : (.static ⟨"java/lang/StringUTF16", "checkIndex", "(I[B)V"⟩ : Cond) ∈ aw := aw_2 (i := 71) rfl rfl
theorem m_2_72 : (.code ⟨"java/lang/StringUTF16", "checkIndex", "(I[B)V"⟩ prog_13_method_91_code 2 none : Cond) ∈ aw := aw_2 (i := 72) rfl rfl
theorem m_2_73 : (.methodLink "java/lang/StringUTF16" 48 ⟨"java/lang/StringUTF16", "length", "([B)I"⟩ : Cond) ∈ aw := aw_2 (i := 73) rfl rfl
theorem m_2_74 : (.static ⟨"java/lang/StringUTF16", "length", "([B)I"⟩ : Cond) ∈ aw := aw_2 (i := 74) rfl rfl
theorem m_2_75 : (.code ⟨"java/lang/StringUTF16", "length", "([B)I"⟩ prog_13_method_6_code 1 (some .int) : Cond) ∈ aw := aw_2 (i := 75) rfl rfl
theorem m_2_76 : (.methodLink "java/lang/StringUTF16" 414 ⟨"java/lang/String", "checkIndex", "(II)V"⟩ : Cond) ∈ aw := aw_2 (i := 76) rfl rfl
theorem m_2_77 : (.methodLink "java/lang/StringUTF16" 71 ⟨"java/lang/StringUTF16", "getChar", "([BI)C"⟩ : Cond) ∈ aw := aw_2 (i := 77) rfl rfl
theorem m_2_78 : (.static ⟨"java/lang/StringUTF16", "getChar", "([BI)C"⟩ : Cond) ∈ aw := aw_2 (i := 78) rfl rfl
theorem m_2_79 : (.code ⟨"java/lang/StringUTF16", "getChar", "([BI)C"⟩ prog_13_method_5_code 2 (some .char) : Cond) ∈ aw := aw_2 (i := 79) rfl rfl
theorem m_2_80 : (.fieldLink "java/lang/StringUTF16" 44 "java/lang/StringUTF16" "$assertionsDisabled" "Z" : Cond) ∈ aw := aw_2 (i := 80) rfl rfl
theorem m_2_82 : (.fieldLink "java/lang/StringUTF16" 59 "java/lang/StringUTF16" "HI_BYTE_SHIFT" "I" : Cond) ∈ aw := aw_2 (i := 82) rfl rfl
theorem m_2_84 : (.fieldLink "java/lang/StringUTF16" 63 "java/lang/StringUTF16" "LO_BYTE_SHIFT" "I" : Cond) ∈ aw := aw_2 (i := 84) rfl rfl
theorem m_2_86 : (.methodLink "HeadDesk$Reader" 68 ⟨"HeadDesk$Reader", "stop", "(I)Z"⟩ : Cond) ∈ aw := aw_2 (i := 86) rfl rfl
theorem m_2_88 : (.instanceMethod ⟨"HeadDesk$Reader", "stop", "(I)Z"⟩ : Cond) ∈ aw := aw_2 (i := 88) rfl rfl
theorem m_2_89 : (.code ⟨"HeadDesk$Reader", "stop", "(I)Z"⟩ prog_3_method_20_code 2 (some .boolean) : Cond) ∈ aw := aw_2 (i := 89) rfl rfl
theorem m_2_92 : (.methodLink "HeadDesk$Reader" 78 ⟨"HeadDesk$Reader", "take", "(C)Z"⟩ : Cond) ∈ aw := aw_2 (i := 92) rfl rfl
theorem m_2_94 : (.instanceMethod ⟨"HeadDesk$Reader", "take", "(C)Z"⟩ : Cond) ∈ aw := aw_2 (i := 94) rfl rfl
theorem m_2_95 : (.code ⟨"HeadDesk$Reader", "take", "(C)Z"⟩ prog_3_method_22_code 2 (some .boolean) : Cond) ∈ aw := aw_2 (i := 95) rfl rfl
theorem m_2_96 : (.methodLink "HeadDesk$Reader" 84 ⟨"HeadDesk$Reader", "readTarget", "()Z"⟩ : Cond) ∈ aw := aw_2 (i := 96) rfl rfl
theorem m_2_98 : (.instanceMethod ⟨"HeadDesk$Reader", "readTarget", "()Z"⟩ : Cond) ∈ aw := aw_2 (i := 98) rfl rfl
theorem m_2_99 : (.code ⟨"HeadDesk$Reader", "readTarget", "()Z"⟩ prog_3_method_7_code 1 (some .boolean) : Cond) ∈ aw := aw_2 (i := 99) rfl rfl
theorem m_2_100 : (.methodLink "HeadDesk$Reader" 101 ⟨"HeadDesk$Reader", "takeNumber", "(I)Z"⟩ : Cond) ∈ aw := aw_2 (i := 100) rfl rfl
theorem m_2_102 : (.instanceMethod ⟨"HeadDesk$Reader", "takeNumber", "(I)Z"⟩ : Cond) ∈ aw := aw_2 (i := 102) rfl rfl
theorem m_2_103 : (.code ⟨"HeadDesk$Reader", "takeNumber", "(I)Z"⟩ prog_3_method_24_code 4 (some .boolean) : Cond) ∈ aw := aw_2 (i := 103) rfl rfl
theorem m_2_104 : (.methodLink "HeadDesk$Reader" 152 ⟨"HeadDesk$Reader", "isDigit", "(I)Z"⟩ : Cond) ∈ aw := aw_2 (i := 104) rfl rfl
theorem m_2_105 : (.static ⟨"HeadDesk$Reader", "isDigit", "(I)Z"⟩ : Cond) ∈ aw := aw_2 (i := 105) rfl rfl
theorem m_2_106 : (.code ⟨"HeadDesk$Reader", "isDigit", "(I)Z"⟩ prog_3_method_28_code 1 (some .boolean) : Cond) ∈ aw := aw_2 (i := 106) rfl rfl
theorem m_2_107 : (.methodLink "HeadDesk$Reader" 60 ⟨"HeadDesk$Reader", "skip", "(C)Z"⟩ : Cond) ∈ aw := aw_2 (i := 107) rfl rfl
theorem m_2_109 : (.instanceMethod ⟨"HeadDesk$Reader", "skip", "(C)Z"⟩ : Cond) ∈ aw := aw_2 (i := 109) rfl rfl
theorem m_2_110 : (.code ⟨"HeadDesk$Reader", "skip", "(C)Z"⟩ prog_3_method_21_code 2 (some .boolean) : Cond) ∈ aw := aw_2 (i := 110) rfl rfl
theorem m_2_111 : (.methodLink "HeadDesk$Reader" 72 ⟨"HeadDesk$Reader", "readName", "()Z"⟩ : Cond) ∈ aw := aw_2 (i := 111) rfl rfl
theorem m_2_113 : (.instanceMethod ⟨"HeadDesk$Reader", "readName", "()Z"⟩ : Cond) ∈ aw := aw_2 (i := 113) rfl rfl
theorem m_2_114 : (.code ⟨"HeadDesk$Reader", "readName", "()Z"⟩ prog_3_method_8_code 1 (some .boolean) : Cond) ∈ aw := aw_2 (i := 114) rfl rfl
theorem m_2_115 : (.methodLink "HeadDesk$Reader" 104 ⟨"HeadDesk$Reader", "takeLetters", "(I)Z"⟩ : Cond) ∈ aw := aw_2 (i := 115) rfl rfl
theorem m_2_117 : (.instanceMethod ⟨"HeadDesk$Reader", "takeLetters", "(I)Z"⟩ : Cond) ∈ aw := aw_2 (i := 117) rfl rfl
theorem m_2_118 : (.code ⟨"HeadDesk$Reader", "takeLetters", "(I)Z"⟩ prog_3_method_25_code 3 (some .boolean) : Cond) ∈ aw := aw_2 (i := 118) rfl rfl
theorem m_2_119 : (.methodLink "HeadDesk$Reader" 196 ⟨"HeadDesk$Reader", "isLetter", "(I)Z"⟩ : Cond) ∈ aw := aw_2 (i := 119) rfl rfl
theorem m_2_120 : (.static ⟨"HeadDesk$Reader", "isLetter", "(I)Z"⟩ : Cond) ∈ aw := aw_2 (i := 120) rfl rfl
theorem m_2_121 : (.code ⟨"HeadDesk$Reader", "isLetter", "(I)Z"⟩ prog_3_method_29_code 1 (some .boolean) : Cond) ∈ aw := aw_2 (i := 121) rfl rfl
theorem m_2_122 : (.methodLink "HeadDesk$Reader" 107 ⟨"HeadDesk$Reader", "wasThere", "()Z"⟩ : Cond) ∈ aw := aw_2 (i := 122) rfl rfl
theorem m_2_124 : (.instanceMethod ⟨"HeadDesk$Reader", "wasThere", "()Z"⟩ : Cond) ∈ aw := aw_2 (i := 124) rfl rfl
theorem m_2_125 : (.code ⟨"HeadDesk$Reader", "wasThere", "()Z"⟩ prog_3_method_9_code 2 (some .boolean) : Cond) ∈ aw := aw_2 (i := 125) rfl rfl
theorem m_2_126 : (.methodLink "HeadDesk$Reader" 110 ⟨"HeadDesk$Reader", "isWordFrom", "(II)Z"⟩ : Cond) ∈ aw := aw_2 (i := 126) rfl rfl
theorem m_2_128 : (.instanceMethod ⟨"HeadDesk$Reader", "isWordFrom", "(II)Z"⟩ : Cond) ∈ aw := aw_2 (i := 128) rfl rfl
theorem m_2_129 : (.code ⟨"HeadDesk$Reader", "isWordFrom", "(II)Z"⟩ prog_3_method_27_code 4 (some .boolean) : Cond) ∈ aw := aw_2 (i := 129) rfl rfl
theorem m_2_130 : (.methodLink "HeadDesk$Reader" 75 ⟨"HeadDesk$Reader", "readValue", "()Z"⟩ : Cond) ∈ aw := aw_2 (i := 130) rfl rfl
theorem m_2_132 : (.instanceMethod ⟨"HeadDesk$Reader", "readValue", "()Z"⟩ : Cond) ∈ aw := aw_2 (i := 132) rfl rfl
theorem m_2_133 : (.code ⟨"HeadDesk$Reader", "readValue", "()Z"⟩ prog_3_method_10_code 1 (some .boolean) : Cond) ∈ aw := aw_2 (i := 133) rfl rfl
theorem m_2_135 : (.methodLink "HeadDesk$Reader" 116 ⟨"HeadDesk$Reader", "isWord", "(Ljava/lang/String;)Z"⟩ : Cond) ∈ aw := aw_2 (i := 135) rfl rfl
theorem m_2_137 : (.instanceMethod ⟨"HeadDesk$Reader", "isWord", "(Ljava/lang/String;)Z"⟩ : Cond) ∈ aw := aw_2 (i := 137) rfl rfl
theorem m_2_138 : (.code ⟨"HeadDesk$Reader", "isWord", "(Ljava/lang/String;)Z"⟩ prog_3_method_26_code 3 (some .boolean) : Cond) ∈ aw := aw_2 (i := 138) rfl rfl
theorem m_2_139 : (.methodLink "HeadDesk$Reader" 119 ⟨"HeadDesk$Reader", "readList", "()Z"⟩ : Cond) ∈ aw := aw_2 (i := 139) rfl rfl
theorem m_2_141 : (.instanceMethod ⟨"HeadDesk$Reader", "readList", "()Z"⟩ : Cond) ∈ aw := aw_2 (i := 141) rfl rfl
theorem m_2_142 : (.code ⟨"HeadDesk$Reader", "readList", "()Z"⟩ prog_3_method_16_code 2 (some .boolean) : Cond) ∈ aw := aw_2 (i := 142) rfl rfl
theorem m_2_143 : (.methodLink "HeadDesk$Reader" 162 ⟨"HeadDesk$Reader", "countBare", "()V"⟩ : Cond) ∈ aw := aw_2 (i := 143) rfl rfl
theorem m_2_145 : (.instanceMethod ⟨"HeadDesk$Reader", "countBare", "()V"⟩ : Cond) ∈ aw := aw_2 (i := 145) rfl rfl
theorem m_2_146 : (.code ⟨"HeadDesk$Reader", "countBare", "()V"⟩ prog_3_method_17_code 1 none : Cond) ∈ aw := aw_2 (i := 146) rfl rfl
theorem m_2_151 : (.constant "HeadDesk$Reader" 147 99999 : Cond) ∈ aw := aw_2 (i := 151) rfl rfl
theorem m_2_152 : (.methodLink "HeadDesk$Reader" 165 ⟨"HeadDesk$Reader", "countWithNumber", "()V"⟩ : Cond) ∈ aw := aw_2 (i := 152) rfl rfl
theorem m_2_154 : (.instanceMethod ⟨"HeadDesk$Reader", "countWithNumber", "()V"⟩ : Cond) ∈ aw := aw_2 (i := 154) rfl rfl
theorem m_2_155 : (.code ⟨"HeadDesk$Reader", "countWithNumber", "()V"⟩ prog_3_method_18_code 1 none : Cond) ∈ aw := aw_2 (i := 155) rfl rfl
theorem m_2_161 : (.methodLink "HeadDesk$Reader" 124 ⟨"HeadDesk$Reader", "readRange", "()Z"⟩ : Cond) ∈ aw := aw_2 (i := 161) rfl rfl
theorem m_2_163 : (.instanceMethod ⟨"HeadDesk$Reader", "readRange", "()Z"⟩ : Cond) ∈ aw := aw_2 (i := 163) rfl rfl
theorem m_2_164 : (.code ⟨"HeadDesk$Reader", "readRange", "()Z"⟩ prog_3_method_12_code 3 (some .boolean) : Cond) ∈ aw := aw_2 (i := 164) rfl rfl
theorem m_2_166 : (.methodLink "HeadDesk$Reader" 148 ⟨"HeadDesk$Head", "setRange", "(III)V"⟩ : Cond) ∈ aw := aw_2 (i := 166) rfl rfl
theorem m_2_167 : (.instanceMethod ⟨"HeadDesk$Head", "setRange", "(III)V"⟩ : Cond) ∈ aw := aw_2 (i := 167) rfl rfl
theorem m_2_168 : (.selects "HeadDesk$Head" ⟨"HeadDesk$Head", "setRange", "(III)V"⟩ ⟨"HeadDesk$Head", "setRange", "(III)V"⟩ : Cond) ∈ aw := aw_2 (i := 168) rfl rfl
theorem m_2_169 : (.code ⟨"HeadDesk$Head", "setRange", "(III)V"⟩ prog_2_method_5_code 4 none : Cond) ∈ aw := aw_2 (i := 169) rfl rfl
theorem m_2_171 : (.methodLink "HeadDesk$Reader" 129 ⟨"HeadDesk$Reader", "readVersions", "()Z"⟩ : Cond) ∈ aw := aw_2 (i := 171) rfl rfl
theorem m_2_173 : (.instanceMethod ⟨"HeadDesk$Reader", "readVersions", "()Z"⟩ : Cond) ∈ aw := aw_2 (i := 173) rfl rfl
theorem m_2_174 : (.code ⟨"HeadDesk$Reader", "readVersions", "()Z"⟩ prog_3_method_13_code 2 (some .boolean) : Cond) ∈ aw := aw_2 (i := 174) rfl rfl
theorem m_2_175 : (.methodLink "HeadDesk$Reader" 155 ⟨"HeadDesk$Head", "addVersion", "(I)V"⟩ : Cond) ∈ aw := aw_2 (i := 175) rfl rfl
theorem m_2_176 : (.instanceMethod ⟨"HeadDesk$Head", "addVersion", "(I)V"⟩ : Cond) ∈ aw := aw_2 (i := 176) rfl rfl
theorem m_2_177 : (.selects "HeadDesk$Head" ⟨"HeadDesk$Head", "addVersion", "(I)V"⟩ ⟨"HeadDesk$Head", "addVersion", "(I)V"⟩ : Cond) ∈ aw := aw_2 (i := 177) rfl rfl
theorem m_2_178 : (.code ⟨"HeadDesk$Head", "addVersion", "(I)V"⟩ prog_2_method_7_code 3 none : Cond) ∈ aw := aw_2 (i := 178) rfl rfl
theorem m_2_180 : (.methodLink "HeadDesk$Reader" 134 ⟨"HeadDesk$Reader", "readLength", "()Z"⟩ : Cond) ∈ aw := aw_2 (i := 180) rfl rfl
theorem m_2_182 : (.instanceMethod ⟨"HeadDesk$Reader", "readLength", "()Z"⟩ : Cond) ∈ aw := aw_2 (i := 182) rfl rfl
theorem m_2_183 : (.code ⟨"HeadDesk$Reader", "readLength", "()Z"⟩ prog_3_method_14_code 1 (some .boolean) : Cond) ∈ aw := aw_2 (i := 183) rfl rfl
theorem m_2_185 : (.methodLink "HeadDesk$Reader" 139 ⟨"HeadDesk$Reader", "readKeys", "()Z"⟩ : Cond) ∈ aw := aw_2 (i := 185) rfl rfl
theorem m_2_187 : (.instanceMethod ⟨"HeadDesk$Reader", "readKeys", "()Z"⟩ : Cond) ∈ aw := aw_2 (i := 187) rfl rfl
theorem m_2_188 : (.code ⟨"HeadDesk$Reader", "readKeys", "()Z"⟩ prog_3_method_15_code 3 (some .boolean) : Cond) ∈ aw := aw_2 (i := 188) rfl rfl
theorem m_2_189 : (.methodLink "HeadDesk$Reader" 159 ⟨"HeadDesk$Head", "addKey", "(I)V"⟩ : Cond) ∈ aw := aw_2 (i := 189) rfl rfl
theorem m_2_190 : (.instanceMethod ⟨"HeadDesk$Head", "addKey", "(I)V"⟩ : Cond) ∈ aw := aw_2 (i := 190) rfl rfl
theorem m_2_191 : (.selects "HeadDesk$Head" ⟨"HeadDesk$Head", "addKey", "(I)V"⟩ ⟨"HeadDesk$Head", "addKey", "(I)V"⟩ : Cond) ∈ aw := aw_2 (i := 191) rfl rfl
theorem m_2_192 : (.code ⟨"HeadDesk$Head", "addKey", "(I)V"⟩ prog_2_method_6_code 2 none : Cond) ∈ aw := aw_2 (i := 192) rfl rfl
theorem m_2_193 : (.methodLink "HeadDesk$Reader" 142 ⟨"HeadDesk$Reader", "readAnything", "()Z"⟩ : Cond) ∈ aw := aw_2 (i := 193) rfl rfl
theorem m_2_195 : (.instanceMethod ⟨"HeadDesk$Reader", "readAnything", "()Z"⟩ : Cond) ∈ aw := aw_2 (i := 195) rfl rfl
theorem m_2_196 : (.code ⟨"HeadDesk$Reader", "readAnything", "()Z"⟩ prog_3_method_11_code 2 (some .boolean) : Cond) ∈ aw := aw_2 (i := 196) rfl rfl
theorem m_2_197 : (.methodLink "HeadDesk" 54 ⟨"HeadDesk$Tape", "empty", "()V"⟩ : Cond) ∈ aw := aw_2 (i := 197) rfl rfl
theorem m_2_198 : (.instanceMethod ⟨"HeadDesk$Tape", "empty", "()V"⟩ : Cond) ∈ aw := aw_2 (i := 198) rfl rfl
theorem m_2_199 : (.selects "HeadDesk$Tape" ⟨"HeadDesk$Tape", "empty", "()V"⟩ ⟨"HeadDesk$Tape", "empty", "()V"⟩ : Cond) ∈ aw := aw_2 (i := 199) rfl rfl
theorem m_2_200 : (.code ⟨"HeadDesk$Tape", "empty", "()V"⟩ prog_4_method_3_code 1 none : Cond) ∈ aw := aw_2 (i := 200) rfl rfl
theorem m_2_201 : (.methodLink "HeadDesk" 57 ⟨"HeadDesk$Reader", "stuckAt", "()I"⟩ : Cond) ∈ aw := aw_2 (i := 201) rfl rfl
theorem m_2_202 : (.instanceMethod ⟨"HeadDesk$Reader", "stuckAt", "()I"⟩ : Cond) ∈ aw := aw_2 (i := 202) rfl rfl
theorem m_2_203 : (.selects "HeadDesk$Reader" ⟨"HeadDesk$Reader", "stuckAt", "()I"⟩ ⟨"HeadDesk$Reader", "stuckAt", "()I"⟩ : Cond) ∈ aw := aw_2 (i := 203) rfl rfl
theorem m_2_204 : (.code ⟨"HeadDesk$Reader", "stuckAt", "()I"⟩ prog_3_method_2_code 1 (some .int) : Cond) ∈ aw := aw_2 (i := 204) rfl rfl
theorem m_2_206 : (.methodLink "HeadDesk" 63 ⟨"HeadDesk$Reader", "trade", "(LHeadDesk$Head;)LHeadDesk$Head;"⟩ : Cond) ∈ aw := aw_2 (i := 206) rfl rfl
theorem m_2_207 : (.instanceMethod ⟨"HeadDesk$Reader", "trade", "(LHeadDesk$Head;)LHeadDesk$Head;"⟩ : Cond) ∈ aw := aw_2 (i := 207) rfl rfl
theorem m_2_208 : (.selects "HeadDesk$Reader" ⟨"HeadDesk$Reader", "trade", "(LHeadDesk$Head;)LHeadDesk$Head;"⟩ ⟨"HeadDesk$Reader", "trade", "(LHeadDesk$Head;)LHeadDesk$Head;"⟩ : Cond) ∈ aw := aw_2 (i := 208) rfl rfl
theorem m_2_209 : (.code ⟨"HeadDesk$Reader", "trade", "(LHeadDesk$Head;)LHeadDesk$Head;"⟩ prog_3_method_3_code 3 (some (.object "HeadDesk$Head")) : Cond) ∈ aw := aw_2 (i := 209) rfl rfl
theorem m_2_210 : (.classLink "HeadDeskLaw" 16 "HeadDeskModel" : Cond) ∈ aw := aw_2 (i := 210) rfl rfl
theorem m_2_211 : (.instantiable "HeadDeskModel" 38 : Cond) ∈ aw := aw_2 (i := 211) rfl rfl
theorem m_2_212 : (.methodLink "HeadDeskLaw" 18 ⟨"HeadDeskModel", "<init>", "()V"⟩ : Cond) ∈ aw := aw_2 (i := 212) rfl rfl
theorem m_2_213 : (.instanceMethod ⟨"HeadDeskModel", "<init>", "()V"⟩ : Cond) ∈ aw := aw_2 (i := 213) rfl rfl
theorem m_2_214 : (.code ⟨"HeadDeskModel", "<init>", "()V"⟩ prog_6_method_1_code 1 none : Cond) ∈ aw := aw_2 (i := 214) rfl rfl
theorem m_2_215 : (.methodLink "HeadDeskModel" 1 ⟨"java/lang/Object", "<init>", "()V"⟩ : Cond) ∈ aw := aw_2 (i := 215) rfl rfl
theorem m_2_216 : (.fieldLink "HeadDeskModel" 32 "HeadDeskModel" "thrown" "I" : Cond) ∈ aw := aw_2 (i := 216) rfl rfl
theorem m_2_217 : (.fieldLink "HeadDeskModel" 7 "HeadDeskModel" "tape" "[I" : Cond) ∈ aw := aw_2 (i := 217) rfl rfl
theorem m_2_218 : (.fieldLink "HeadDeskModel" 35 "HeadDeskModel" "taped" "I" : Cond) ∈ aw := aw_2 (i := 218) rfl rfl
theorem m_2_219 : (.fieldLink "HeadDeskModel" 13 "HeadDeskModel" "fault" "I" : Cond) ∈ aw := aw_2 (i := 219) rfl rfl
theorem m_2_220 : (.fieldLink "HeadDeskModel" 40 "HeadDeskModel" "at" "I" : Cond) ∈ aw := aw_2 (i := 220) rfl rfl
theorem m_2_221 : (.fieldLink "HeadDeskModel" 43 "HeadDeskModel" "bad" "Z" : Cond) ∈ aw := aw_2 (i := 221) rfl rfl
theorem m_2_222 : (.fieldLink "HeadDeskModel" 47 "HeadDeskModel" "badPlace" "I" : Cond) ∈ aw := aw_2 (i := 222) rfl rfl
theorem m_2_223 : (.fieldLink "HeadDeskModel" 77 "HeadDeskModel" "path" "I" : Cond) ∈ aw := aw_2 (i := 223) rfl rfl
theorem m_2_224 : (.fieldLink "HeadDeskModel" 80 "HeadDeskModel" "variant" "I" : Cond) ∈ aw := aw_2 (i := 224) rfl rfl
theorem m_2_225 : (.fieldLink "HeadDeskModel" 99 "HeadDeskModel" "rangeKind" "I" : Cond) ∈ aw := aw_2 (i := 225) rfl rfl
theorem m_2_226 : (.fieldLink "HeadDeskModel" 103 "HeadDeskModel" "rangeA" "I" : Cond) ∈ aw := aw_2 (i := 226) rfl rfl
theorem m_2_227 : (.fieldLink "HeadDeskModel" 106 "HeadDeskModel" "rangeB" "I" : Cond) ∈ aw := aw_2 (i := 227) rfl rfl
theorem m_2_228 : (.fieldLink "HeadDeskModel" 112 "HeadDeskModel" "matches" "I" : Cond) ∈ aw := aw_2 (i := 228) rfl rfl
theorem m_2_229 : (.fieldLink "HeadDeskModel" 145 "HeadDeskModel" "maxAge" "I" : Cond) ∈ aw := aw_2 (i := 229) rfl rfl
theorem m_2_230 : (.fieldLink "HeadDeskModel" 150 "HeadDeskModel" "maxStale" "I" : Cond) ∈ aw := aw_2 (i := 230) rfl rfl
theorem m_2_231 : (.fieldLink "HeadDeskModel" 155 "HeadDeskModel" "minFresh" "I" : Cond) ∈ aw := aw_2 (i := 231) rfl rfl
theorem m_2_232 : (.fieldLink "HeadDeskModel" 182 "HeadDeskModel" "isHead" "Z" : Cond) ∈ aw := aw_2 (i := 232) rfl rfl
theorem m_2_233 : (.fieldLink "HeadDeskModel" 109 "HeadDeskModel" "star" "Z" : Cond) ∈ aw := aw_2 (i := 233) rfl rfl
theorem m_2_234 : (.fieldLink "HeadDeskModel" 135 "HeadDeskModel" "noCache" "Z" : Cond) ∈ aw := aw_2 (i := 234) rfl rfl
theorem m_2_235 : (.fieldLink "HeadDeskModel" 140 "HeadDeskModel" "onlyIfCached" "Z" : Cond) ∈ aw := aw_2 (i := 235) rfl rfl
theorem m_2_236 : (.fieldLink "HeadDeskModel" 17 "HeadDeskModel" "match" "[I" : Cond) ∈ aw := aw_2 (i := 236) rfl rfl
theorem m_2_237 : (.fieldLink "HeadDeskModel" 185 "HeadDeskModel" "length" "I" : Cond) ∈ aw := aw_2 (i := 237) rfl rfl
theorem m_2_238 : (.fieldLink "HeadDeskModel" 179 "HeadDeskModel" "keyMask" "I" : Cond) ∈ aw := aw_2 (i := 238) rfl rfl
theorem m_2_239 : (.fieldLink "HeadDeskModel" 166 "HeadDeskModel" "live" "I" : Cond) ∈ aw := aw_2 (i := 239) rfl rfl
theorem m_3_0 : (.fieldLink "HeadDeskModel" 171 "HeadDeskModel" "ifError" "I" : Cond) ∈ aw := aw_3 (i := 0) rfl rfl
theorem m_3_1 : (.fieldLink "HeadDeskModel" 176 "HeadDeskModel" "ifLate" "I" : Cond) ∈ aw := aw_3 (i := 1) rfl rfl
theorem m_3_2 : (.fieldLink "HeadDeskModel" 160 "HeadDeskModel" "noStore" "Z" : Cond) ∈ aw := aw_3 (i := 2) rfl rfl
theorem m_3_3 : (.fieldLink "HeadDeskModel" 163 "HeadDeskModel" "thingNoCache" "Z" : Cond) ∈ aw := aw_3 (i := 3) rfl rfl
theorem m_3_4 : (.fieldLink "HeadDeskModel" 86 "HeadDeskModel" "names" "I" : Cond) ∈ aw := aw_3 (i := 4) rfl rfl
theorem m_3_5 : (.fieldLink "HeadDeskModel" 20 "HeadDeskModel" "nameFrom" "[I" : Cond) ∈ aw := aw_3 (i := 5) rfl rfl
theorem m_3_6 : (.fieldLink "HeadDeskModel" 23 "HeadDeskModel" "nameTo" "[I" : Cond) ∈ aw := aw_3 (i := 6) rfl rfl
theorem m_3_7 : (.fieldLink "HeadDeskModel" 26 "HeadDeskModel" "kept" "[I" : Cond) ∈ aw := aw_3 (i := 7) rfl rfl
theorem m_3_8 : (.fieldLink "HeadDeskModel" 29 "HeadDeskModel" "keptMatch" "[I" : Cond) ∈ aw := aw_3 (i := 8) rfl rfl
theorem m_3_9 : (.fieldLink "HeadDeskModel" 230 "HeadDeskModel" "keptMatches" "I" : Cond) ∈ aw := aw_3 (i := 9) rfl rfl
theorem m_3_10 : (.fieldLink "HeadDeskModel" 240 "HeadDeskModel" "good" "I" : Cond) ∈ aw := aw_3 (i := 10) rfl rfl
theorem m_3_11 : (.fieldLink "HeadDeskModel" 115 "HeadDeskModel" "wordFrom" "I" : Cond) ∈ aw := aw_3 (i := 11) rfl rfl
theorem m_3_12 : (.fieldLink "HeadDeskModel" 118 "HeadDeskModel" "wordTo" "I" : Cond) ∈ aw := aw_3 (i := 12) rfl rfl
theorem m_3_13 : (.fieldLink "HeadDeskModel" 121 "HeadDeskModel" "wordNumber" "I" : Cond) ∈ aw := aw_3 (i := 13) rfl rfl
theorem m_3_91 : (.methodLink "HeadDeskLaw" 32 ⟨"HeadDeskModel", "thrown", "()I"⟩ : Cond) ∈ aw := aw_3 (i := 91) rfl rfl
theorem m_3_92 : (.instanceMethod ⟨"HeadDeskModel", "thrown", "()I"⟩ : Cond) ∈ aw := aw_3 (i := 92) rfl rfl
theorem m_3_93 : (.selects "HeadDeskModel" ⟨"HeadDeskModel", "thrown", "()I"⟩ ⟨"HeadDeskModel", "thrown", "()I"⟩ : Cond) ∈ aw := aw_3 (i := 93) rfl rfl
theorem m_3_94 : (.code ⟨"HeadDeskModel", "thrown", "()I"⟩ prog_6_method_2_code 1 (some .int) : Cond) ∈ aw := aw_3 (i := 94) rfl rfl
theorem m_3_95 : (.methodLink "HeadDeskLaw" 25 ⟨"HeadDeskModel", "type", "(JI)Z"⟩ : Cond) ∈ aw := aw_3 (i := 95) rfl rfl
theorem m_3_96 : (.instanceMethod ⟨"HeadDeskModel", "type", "(JI)Z"⟩ : Cond) ∈ aw := aw_3 (i := 96) rfl rfl
theorem m_3_97 : (.selects "HeadDeskModel" ⟨"HeadDeskModel", "type", "(JI)Z"⟩ ⟨"HeadDeskModel", "type", "(JI)Z"⟩ : Cond) ∈ aw := aw_3 (i := 97) rfl rfl
theorem m_3_98 : (.code ⟨"HeadDeskModel", "type", "(JI)Z"⟩ prog_6_method_3_code 6 (some .boolean) : Cond) ∈ aw := aw_3 (i := 98) rfl rfl
theorem m_3_99 : (.constantLong "HeadDeskModel" 38 255 : Cond) ∈ aw := aw_3 (i := 99) rfl rfl
theorem m_3_100 : (.methodLink "HeadDeskLaw" 31 ⟨"HeadDeskModel", "read", "(I)I"⟩ : Cond) ∈ aw := aw_3 (i := 100) rfl rfl
theorem m_3_101 : (.instanceMethod ⟨"HeadDeskModel", "read", "(I)I"⟩ : Cond) ∈ aw := aw_3 (i := 101) rfl rfl
theorem m_3_102 : (.selects "HeadDeskModel" ⟨"HeadDeskModel", "read", "(I)I"⟩ ⟨"HeadDeskModel", "read", "(I)I"⟩ : Cond) ∈ aw := aw_3 (i := 102) rfl rfl
theorem m_3_103 : (.code ⟨"HeadDeskModel", "read", "(I)I"⟩ prog_6_method_26_code 2 (some .int) : Cond) ∈ aw := aw_3 (i := 103) rfl rfl
theorem m_3_104 : (.methodLink "HeadDeskModel" 233 ⟨"HeadDeskModel", "readText", "(Z)Z"⟩ : Cond) ∈ aw := aw_3 (i := 104) rfl rfl
theorem m_3_106 : (.instanceMethod ⟨"HeadDeskModel", "readText", "(Z)Z"⟩ : Cond) ∈ aw := aw_3 (i := 106) rfl rfl
theorem m_3_107 : (.code ⟨"HeadDeskModel", "readText", "(Z)Z"⟩ prog_6_method_23_code 2 (some .boolean) : Cond) ∈ aw := aw_3 (i := 107) rfl rfl
theorem m_3_108 : (.methodLink "HeadDeskModel" 50 ⟨"HeadDeskModel", "see", "()I"⟩ : Cond) ∈ aw := aw_3 (i := 108) rfl rfl
theorem m_3_110 : (.instanceMethod ⟨"HeadDeskModel", "see", "()I"⟩ : Cond) ∈ aw := aw_3 (i := 110) rfl rfl
theorem m_3_111 : (.code ⟨"HeadDeskModel", "see", "()I"⟩ prog_6_method_4_code 1 (some .int) : Cond) ∈ aw := aw_3 (i := 111) rfl rfl
theorem m_3_113 : (.methodLink "HeadDeskModel" 95 ⟨"HeadDeskModel", "expectWord", "(Ljava/lang/String;)Z"⟩ : Cond) ∈ aw := aw_3 (i := 113) rfl rfl
theorem m_3_115 : (.instanceMethod ⟨"HeadDeskModel", "expectWord", "(Ljava/lang/String;)Z"⟩ : Cond) ∈ aw := aw_3 (i := 115) rfl rfl
theorem m_3_116 : (.code ⟨"HeadDeskModel", "expectWord", "(Ljava/lang/String;)Z"⟩ prog_6_method_7_code 3 (some .boolean) : Cond) ∈ aw := aw_3 (i := 116) rfl rfl
theorem m_3_117 : (.methodLink "HeadDeskModel" 58 ⟨"java/lang/String", "length", "()I"⟩ : Cond) ∈ aw := aw_3 (i := 117) rfl rfl
theorem m_3_118 : (.methodLink "HeadDeskModel" 63 ⟨"java/lang/String", "charAt", "(I)C"⟩ : Cond) ∈ aw := aw_3 (i := 118) rfl rfl
theorem m_3_119 : (.methodLink "HeadDeskModel" 67 ⟨"HeadDeskModel", "expect", "(I)Z"⟩ : Cond) ∈ aw := aw_3 (i := 119) rfl rfl
theorem m_3_121 : (.instanceMethod ⟨"HeadDeskModel", "expect", "(I)Z"⟩ : Cond) ∈ aw := aw_3 (i := 121) rfl rfl
theorem m_3_122 : (.code ⟨"HeadDeskModel", "expect", "(I)Z"⟩ prog_6_method_6_code 2 (some .boolean) : Cond) ∈ aw := aw_3 (i := 122) rfl rfl
theorem m_3_123 : (.methodLink "HeadDeskModel" 54 ⟨"HeadDeskModel", "wrong", "(I)Z"⟩ : Cond) ∈ aw := aw_3 (i := 123) rfl rfl
theorem m_3_125 : (.instanceMethod ⟨"HeadDeskModel", "wrong", "(I)Z"⟩ : Cond) ∈ aw := aw_3 (i := 125) rfl rfl
theorem m_3_126 : (.code ⟨"HeadDeskModel", "wrong", "(I)Z"⟩ prog_6_method_5_code 2 (some .boolean) : Cond) ∈ aw := aw_3 (i := 126) rfl rfl
theorem m_3_129 : (.methodLink "HeadDeskModel" 193 ⟨"HeadDeskModel", "target", "(Z)V"⟩ : Cond) ∈ aw := aw_3 (i := 129) rfl rfl
theorem m_3_131 : (.instanceMethod ⟨"HeadDeskModel", "target", "(Z)V"⟩ : Cond) ∈ aw := aw_3 (i := 131) rfl rfl
theorem m_3_132 : (.code ⟨"HeadDeskModel", "target", "(Z)V"⟩ prog_6_method_11_code 2 none : Cond) ∈ aw := aw_3 (i := 132) rfl rfl
theorem m_3_133 : (.methodLink "HeadDeskModel" 73 ⟨"HeadDeskModel", "number", "(I)I"⟩ : Cond) ∈ aw := aw_3 (i := 133) rfl rfl
theorem m_3_135 : (.instanceMethod ⟨"HeadDeskModel", "number", "(I)I"⟩ : Cond) ∈ aw := aw_3 (i := 135) rfl rfl
theorem m_3_136 : (.code ⟨"HeadDeskModel", "number", "(I)I"⟩ prog_6_method_10_code 4 (some .int) : Cond) ∈ aw := aw_3 (i := 136) rfl rfl
theorem m_3_137 : (.methodLink "HeadDeskModel" 70 ⟨"HeadDeskModel", "isDigit", "(I)Z"⟩ : Cond) ∈ aw := aw_3 (i := 137) rfl rfl
theorem m_3_138 : (.static ⟨"HeadDeskModel", "isDigit", "(I)Z"⟩ : Cond) ∈ aw := aw_3 (i := 138) rfl rfl
theorem m_3_139 : (.code ⟨"HeadDeskModel", "isDigit", "(I)Z"⟩ prog_6_method_8_code 1 (some .boolean) : Cond) ∈ aw := aw_3 (i := 139) rfl rfl
theorem m_3_140 : (.methodLink "HeadDeskModel" 197 ⟨"HeadDeskModel", "line", "(Z)V"⟩ : Cond) ∈ aw := aw_3 (i := 140) rfl rfl
theorem m_3_142 : (.instanceMethod ⟨"HeadDeskModel", "line", "(Z)V"⟩ : Cond) ∈ aw := aw_3 (i := 142) rfl rfl
theorem m_3_143 : (.code ⟨"HeadDeskModel", "line", "(Z)V"⟩ prog_6_method_24_code 2 none : Cond) ∈ aw := aw_3 (i := 143) rfl rfl
theorem m_3_144 : (.methodLink "HeadDeskModel" 200 ⟨"HeadDeskModel", "name", "()Z"⟩ : Cond) ∈ aw := aw_3 (i := 144) rfl rfl
theorem m_3_146 : (.instanceMethod ⟨"HeadDeskModel", "name", "()Z"⟩ : Cond) ∈ aw := aw_3 (i := 146) rfl rfl
theorem m_3_147 : (.code ⟨"HeadDeskModel", "name", "()Z"⟩ prog_6_method_12_code 3 (some .boolean) : Cond) ∈ aw := aw_3 (i := 147) rfl rfl
theorem m_3_148 : (.methodLink "HeadDeskModel" 83 ⟨"HeadDeskModel", "isSmall", "(I)Z"⟩ : Cond) ∈ aw := aw_3 (i := 148) rfl rfl
theorem m_3_149 : (.static ⟨"HeadDeskModel", "isSmall", "(I)Z"⟩ : Cond) ∈ aw := aw_3 (i := 149) rfl rfl
theorem m_3_150 : (.code ⟨"HeadDeskModel", "isSmall", "(I)Z"⟩ prog_6_method_9_code 1 (some .boolean) : Cond) ∈ aw := aw_3 (i := 150) rfl rfl
theorem m_3_151 : (.methodLink "HeadDeskModel" 89 ⟨"HeadDeskModel", "isSame", "(IIII)Z"⟩ : Cond) ∈ aw := aw_3 (i := 151) rfl rfl
theorem m_3_153 : (.instanceMethod ⟨"HeadDeskModel", "isSame", "(IIII)Z"⟩ : Cond) ∈ aw := aw_3 (i := 153) rfl rfl
theorem m_3_154 : (.code ⟨"HeadDeskModel", "isSame", "(IIII)Z"⟩ prog_6_method_13_code 7 (some .boolean) : Cond) ∈ aw := aw_3 (i := 154) rfl rfl
theorem m_3_156 : (.methodLink "HeadDeskModel" 206 ⟨"HeadDeskModel", "isNamed", "(Ljava/lang/String;)Z"⟩ : Cond) ∈ aw := aw_3 (i := 156) rfl rfl
theorem m_3_158 : (.instanceMethod ⟨"HeadDeskModel", "isNamed", "(Ljava/lang/String;)Z"⟩ : Cond) ∈ aw := aw_3 (i := 158) rfl rfl
theorem m_3_159 : (.code ⟨"HeadDeskModel", "isNamed", "(Ljava/lang/String;)Z"⟩ prog_6_method_14_code 5 (some .boolean) : Cond) ∈ aw := aw_3 (i := 159) rfl rfl
theorem m_3_160 : (.methodLink "HeadDeskModel" 209 ⟨"HeadDeskModel", "range", "()V"⟩ : Cond) ∈ aw := aw_3 (i := 160) rfl rfl
theorem m_3_162 : (.instanceMethod ⟨"HeadDeskModel", "range", "()V"⟩ : Cond) ∈ aw := aw_3 (i := 162) rfl rfl
theorem m_3_163 : (.code ⟨"HeadDeskModel", "range", "()V"⟩ prog_6_method_16_code 1 none : Cond) ∈ aw := aw_3 (i := 163) rfl rfl
theorem m_3_165 : (.constant "HeadDeskModel" 102 99999 : Cond) ∈ aw := aw_3 (i := 165) rfl rfl
theorem m_3_167 : (.methodLink "HeadDeskModel" 213 ⟨"HeadDeskModel", "matching", "()V"⟩ : Cond) ∈ aw := aw_3 (i := 167) rfl rfl
theorem m_3_169 : (.instanceMethod ⟨"HeadDeskModel", "matching", "()V"⟩ : Cond) ∈ aw := aw_3 (i := 169) rfl rfl
theorem m_3_170 : (.code ⟨"HeadDeskModel", "matching", "()V"⟩ prog_6_method_17_code 3 none : Cond) ∈ aw := aw_3 (i := 170) rfl rfl
theorem m_3_172 : (.methodLink "HeadDeskModel" 218 ⟨"HeadDeskModel", "list", "(Z)V"⟩ : Cond) ∈ aw := aw_3 (i := 172) rfl rfl
theorem m_3_174 : (.instanceMethod ⟨"HeadDeskModel", "list", "(Z)V"⟩ : Cond) ∈ aw := aw_3 (i := 174) rfl rfl
theorem m_3_175 : (.code ⟨"HeadDeskModel", "list", "(Z)V"⟩ prog_6_method_18_code 3 none : Cond) ∈ aw := aw_3 (i := 175) rfl rfl
theorem m_3_176 : (.methodLink "HeadDeskModel" 124 ⟨"HeadDeskModel", "requestWord", "()V"⟩ : Cond) ∈ aw := aw_3 (i := 176) rfl rfl
theorem m_3_178 : (.instanceMethod ⟨"HeadDeskModel", "requestWord", "()V"⟩ : Cond) ∈ aw := aw_3 (i := 178) rfl rfl
theorem m_3_179 : (.code ⟨"HeadDeskModel", "requestWord", "()V"⟩ prog_6_method_20_code 2 none : Cond) ∈ aw := aw_3 (i := 179) rfl rfl
theorem m_3_181 : (.methodLink "HeadDeskModel" 132 ⟨"HeadDeskModel", "isWord", "(Ljava/lang/String;)Z"⟩ : Cond) ∈ aw := aw_3 (i := 181) rfl rfl
theorem m_3_183 : (.instanceMethod ⟨"HeadDeskModel", "isWord", "(Ljava/lang/String;)Z"⟩ : Cond) ∈ aw := aw_3 (i := 183) rfl rfl
theorem m_3_184 : (.code ⟨"HeadDeskModel", "isWord", "(Ljava/lang/String;)Z"⟩ prog_6_method_19_code 4 (some .boolean) : Cond) ∈ aw := aw_3 (i := 184) rfl rfl
theorem m_3_189 : (.methodLink "HeadDeskModel" 127 ⟨"HeadDeskModel", "thingWord", "()V"⟩ : Cond) ∈ aw := aw_3 (i := 189) rfl rfl
theorem m_3_191 : (.instanceMethod ⟨"HeadDeskModel", "thingWord", "()V"⟩ : Cond) ∈ aw := aw_3 (i := 191) rfl rfl
theorem m_3_192 : (.code ⟨"HeadDeskModel", "thingWord", "()V"⟩ prog_6_method_21_code 2 none : Cond) ∈ aw := aw_3 (i := 192) rfl rfl
theorem m_3_198 : (.methodLink "HeadDeskModel" 224 ⟨"HeadDeskModel", "keyLetters", "()V"⟩ : Cond) ∈ aw := aw_3 (i := 198) rfl rfl
theorem m_3_200 : (.instanceMethod ⟨"HeadDeskModel", "keyLetters", "()V"⟩ : Cond) ∈ aw := aw_3 (i := 200) rfl rfl
theorem m_3_201 : (.code ⟨"HeadDeskModel", "keyLetters", "()V"⟩ prog_6_method_22_code 3 none : Cond) ∈ aw := aw_3 (i := 201) rfl rfl
theorem m_3_202 : (.methodLink "HeadDeskModel" 227 ⟨"HeadDeskModel", "anyValue", "()V"⟩ : Cond) ∈ aw := aw_3 (i := 202) rfl rfl
theorem m_3_204 : (.instanceMethod ⟨"HeadDeskModel", "anyValue", "()V"⟩ : Cond) ∈ aw := aw_3 (i := 204) rfl rfl
theorem m_3_205 : (.code ⟨"HeadDeskModel", "anyValue", "()V"⟩ prog_6_method_15_code 1 none : Cond) ∈ aw := aw_3 (i := 205) rfl rfl
theorem m_3_206 : (.methodLink "HeadDeskModel" 237 ⟨"HeadDeskModel", "keep", "(Z)V"⟩ : Cond) ∈ aw := aw_3 (i := 206) rfl rfl
theorem m_3_208 : (.instanceMethod ⟨"HeadDeskModel", "keep", "(Z)V"⟩ : Cond) ∈ aw := aw_3 (i := 208) rfl rfl
theorem m_3_209 : (.code ⟨"HeadDeskModel", "keep", "(Z)V"⟩ prog_6_method_25_code 5 none : Cond) ∈ aw := aw_3 (i := 209) rfl rfl
theorem m_3_210 : (.methodLink "HeadDeskLaw" 39 ⟨"HeadDeskModel", "fault", "()I"⟩ : Cond) ∈ aw := aw_3 (i := 210) rfl rfl
theorem m_3_211 : (.instanceMethod ⟨"HeadDeskModel", "fault", "()I"⟩ : Cond) ∈ aw := aw_3 (i := 211) rfl rfl
theorem m_3_212 : (.selects "HeadDeskModel" ⟨"HeadDeskModel", "fault", "()I"⟩ ⟨"HeadDeskModel", "fault", "()I"⟩ : Cond) ∈ aw := aw_3 (i := 212) rfl rfl
theorem m_3_213 : (.code ⟨"HeadDeskModel", "fault", "()I"⟩ prog_6_method_27_code 1 (some .int) : Cond) ∈ aw := aw_3 (i := 213) rfl rfl
theorem m_3_214 : (.methodLink "HeadDeskLaw" 43 ⟨"HeadDeskModel", "told", "(I)I"⟩ : Cond) ∈ aw := aw_3 (i := 214) rfl rfl
theorem m_3_215 : (.instanceMethod ⟨"HeadDeskModel", "told", "(I)I"⟩ : Cond) ∈ aw := aw_3 (i := 215) rfl rfl
theorem m_3_216 : (.selects "HeadDeskModel" ⟨"HeadDeskModel", "told", "(I)I"⟩ ⟨"HeadDeskModel", "told", "(I)I"⟩ : Cond) ∈ aw := aw_3 (i := 216) rfl rfl
theorem m_3_217 : (.code ⟨"HeadDeskModel", "told", "(I)I"⟩ prog_6_method_28_code 2 (some .int) : Cond) ∈ aw := aw_3 (i := 217) rfl rfl
theorem m_3_218 : (.methodLink "HeadDeskLaw" 48 ⟨"HeadDeskModel", "matches", "(I)Z"⟩ : Cond) ∈ aw := aw_3 (i := 218) rfl rfl
theorem m_3_219 : (.instanceMethod ⟨"HeadDeskModel", "matches", "(I)Z"⟩ : Cond) ∈ aw := aw_3 (i := 219) rfl rfl
theorem m_3_220 : (.selects "HeadDeskModel" ⟨"HeadDeskModel", "matches", "(I)Z"⟩ ⟨"HeadDeskModel", "matches", "(I)Z"⟩ : Cond) ∈ aw := aw_3 (i := 220) rfl rfl
theorem m_3_221 : (.code ⟨"HeadDeskModel", "matches", "(I)Z"⟩ prog_6_method_29_code 4 (some .boolean) : Cond) ∈ aw := aw_3 (i := 221) rfl rfl
theorem m_3_222 : (.methodLink "HeadDeskLaw" 53 ⟨"HeadDeskModel", "bytes", "(II)I"⟩ : Cond) ∈ aw := aw_3 (i := 222) rfl rfl
theorem m_3_223 : (.instanceMethod ⟨"HeadDeskModel", "bytes", "(II)I"⟩ : Cond) ∈ aw := aw_3 (i := 223) rfl rfl
theorem m_3_224 : (.selects "HeadDeskModel" ⟨"HeadDeskModel", "bytes", "(II)I"⟩ ⟨"HeadDeskModel", "bytes", "(II)I"⟩ : Cond) ∈ aw := aw_3 (i := 224) rfl rfl
theorem m_3_225 : (.code ⟨"HeadDeskModel", "bytes", "(II)I"⟩ prog_6_method_30_code 5 (some .int) : Cond) ∈ aw := aw_3 (i := 225) rfl rfl
theorem m_3_226 : (.constantLong "HeadDeskLaw" 19 4294967295 : Cond) ∈ aw := aw_3 (i := 226) rfl rfl
theorem m_3_227 : (.arrayClass .long : Cond) ∈ aw := aw_3 (i := 227) rfl rfl
theorem m_3_229 : (.fieldLink "java/lang/String" 9 "java/lang/String" "value" "[B" : Cond) ∈ aw := aw_3 (i := 229) rfl rfl
theorem m_3_230 : (.fieldLink "java/lang/String" 15 "java/lang/String" "coder" "B" : Cond) ∈ aw := aw_3 (i := 230) rfl rfl
theorem ms_0 : (.selects "HeadDesk$Head" ⟨"HeadDesk$Head", "hasVersion", "(I)Z"⟩ ⟨"HeadDesk$Head", "hasVersion", "(I)Z"⟩ : Cond) ∈ aw := aw_s (by decide +kernel)
theorem ms_1 : (.selects "java/lang/Throwable" ⟨"java/lang/Throwable", "fillInStackTrace", "(I)Ljava/lang/Throwable;"⟩ ⟨"java/lang/Throwable", "fillInStackTrace", "(I)Ljava/lang/Throwable;"⟩ : Cond) ∈ aw := aw_s (by decide +kernel)
theorem ms_2 : (.selects "HeadDesk$Reader" ⟨"HeadDesk$Reader", "readFirstLine", "()Z"⟩ ⟨"HeadDesk$Reader", "readFirstLine", "()Z"⟩ : Cond) ∈ aw := aw_s (by decide +kernel)
theorem ms_3 : (.selects "HeadDesk$Reader" ⟨"HeadDesk$Reader", "readVerb", "()Z"⟩ ⟨"HeadDesk$Reader", "readVerb", "()Z"⟩ : Cond) ∈ aw := aw_s (by decide +kernel)
theorem ms_4 : (.selects "HeadDesk$Reader" ⟨"HeadDesk$Reader", "takeAll", "(Ljava/lang/String;)Z"⟩ ⟨"HeadDesk$Reader", "takeAll", "(Ljava/lang/String;)Z"⟩ : Cond) ∈ aw := aw_s (by decide +kernel)
theorem ms_5 : (.selects "HeadDesk$Reader" ⟨"HeadDesk$Reader", "mark", "()I"⟩ ⟨"HeadDesk$Reader", "mark", "()I"⟩ : Cond) ∈ aw := aw_s (by decide +kernel)
theorem ms_6 : (.selects "HeadDesk$Reader" ⟨"HeadDesk$Reader", "stop", "(I)Z"⟩ ⟨"HeadDesk$Reader", "stop", "(I)Z"⟩ : Cond) ∈ aw := aw_s (by decide +kernel)
theorem ms_7 : (.selects "HeadDesk$Reader" ⟨"HeadDesk$Reader", "take", "(C)Z"⟩ ⟨"HeadDesk$Reader", "take", "(C)Z"⟩ : Cond) ∈ aw := aw_s (by decide +kernel)
theorem ms_8 : (.selects "HeadDesk$Reader" ⟨"HeadDesk$Reader", "readTarget", "()Z"⟩ ⟨"HeadDesk$Reader", "readTarget", "()Z"⟩ : Cond) ∈ aw := aw_s (by decide +kernel)
theorem ms_9 : (.selects "HeadDesk$Reader" ⟨"HeadDesk$Reader", "takeNumber", "(I)Z"⟩ ⟨"HeadDesk$Reader", "takeNumber", "(I)Z"⟩ : Cond) ∈ aw := aw_s (by decide +kernel)
theorem ms_10 : (.selects "HeadDesk$Reader" ⟨"HeadDesk$Reader", "skip", "(C)Z"⟩ ⟨"HeadDesk$Reader", "skip", "(C)Z"⟩ : Cond) ∈ aw := aw_s (by decide +kernel)
theorem ms_11 : (.selects "HeadDesk$Reader" ⟨"HeadDesk$Reader", "readName", "()Z"⟩ ⟨"HeadDesk$Reader", "readName", "()Z"⟩ : Cond) ∈ aw := aw_s (by decide +kernel)
theorem ms_12 : (.selects "HeadDesk$Reader" ⟨"HeadDesk$Reader", "takeLetters", "(I)Z"⟩ ⟨"HeadDesk$Reader", "takeLetters", "(I)Z"⟩ : Cond) ∈ aw := aw_s (by decide +kernel)
theorem ms_13 : (.selects "HeadDesk$Reader" ⟨"HeadDesk$Reader", "wasThere", "()Z"⟩ ⟨"HeadDesk$Reader", "wasThere", "()Z"⟩ : Cond) ∈ aw := aw_s (by decide +kernel)
theorem ms_14 : (.selects "HeadDesk$Reader" ⟨"HeadDesk$Reader", "isWordFrom", "(II)Z"⟩ ⟨"HeadDesk$Reader", "isWordFrom", "(II)Z"⟩ : Cond) ∈ aw := aw_s (by decide +kernel)
theorem ms_15 : (.selects "HeadDesk$Reader" ⟨"HeadDesk$Reader", "readValue", "()Z"⟩ ⟨"HeadDesk$Reader", "readValue", "()Z"⟩ : Cond) ∈ aw := aw_s (by decide +kernel)
theorem ms_16 : (.selects "HeadDesk$Reader" ⟨"HeadDesk$Reader", "isWord", "(Ljava/lang/String;)Z"⟩ ⟨"HeadDesk$Reader", "isWord", "(Ljava/lang/String;)Z"⟩ : Cond) ∈ aw := aw_s (by decide +kernel)
theorem ms_17 : (.selects "HeadDesk$Reader" ⟨"HeadDesk$Reader", "readList", "()Z"⟩ ⟨"HeadDesk$Reader", "readList", "()Z"⟩ : Cond) ∈ aw := aw_s (by decide +kernel)
theorem ms_18 : (.selects "HeadDesk$Reader" ⟨"HeadDesk$Reader", "countBare", "()V"⟩ ⟨"HeadDesk$Reader", "countBare", "()V"⟩ : Cond) ∈ aw := aw_s (by decide +kernel)
theorem ms_19 : (.selects "HeadDesk$Reader" ⟨"HeadDesk$Reader", "countWithNumber", "()V"⟩ ⟨"HeadDesk$Reader", "countWithNumber", "()V"⟩ : Cond) ∈ aw := aw_s (by decide +kernel)
theorem ms_20 : (.selects "HeadDesk$Reader" ⟨"HeadDesk$Reader", "readRange", "()Z"⟩ ⟨"HeadDesk$Reader", "readRange", "()Z"⟩ : Cond) ∈ aw := aw_s (by decide +kernel)
theorem ms_21 : (.selects "HeadDesk$Reader" ⟨"HeadDesk$Reader", "readVersions", "()Z"⟩ ⟨"HeadDesk$Reader", "readVersions", "()Z"⟩ : Cond) ∈ aw := aw_s (by decide +kernel)
theorem ms_22 : (.selects "HeadDesk$Reader" ⟨"HeadDesk$Reader", "readLength", "()Z"⟩ ⟨"HeadDesk$Reader", "readLength", "()Z"⟩ : Cond) ∈ aw := aw_s (by decide +kernel)
theorem ms_23 : (.selects "HeadDesk$Reader" ⟨"HeadDesk$Reader", "readKeys", "()Z"⟩ ⟨"HeadDesk$Reader", "readKeys", "()Z"⟩ : Cond) ∈ aw := aw_s (by decide +kernel)
theorem ms_24 : (.selects "HeadDesk$Reader" ⟨"HeadDesk$Reader", "readAnything", "()Z"⟩ ⟨"HeadDesk$Reader", "readAnything", "()Z"⟩ : Cond) ∈ aw := aw_s (by decide +kernel)
theorem ms_25 : (.selects "HeadDeskModel" ⟨"HeadDeskModel", "readText", "(Z)Z"⟩ ⟨"HeadDeskModel", "readText", "(Z)Z"⟩ : Cond) ∈ aw := aw_s (by decide +kernel)
theorem ms_26 : (.selects "HeadDeskModel" ⟨"HeadDeskModel", "see", "()I"⟩ ⟨"HeadDeskModel", "see", "()I"⟩ : Cond) ∈ aw := aw_s (by decide +kernel)
theorem ms_27 : (.selects "HeadDeskModel" ⟨"HeadDeskModel", "expectWord", "(Ljava/lang/String;)Z"⟩ ⟨"HeadDeskModel", "expectWord", "(Ljava/lang/String;)Z"⟩ : Cond) ∈ aw := aw_s (by decide +kernel)
theorem ms_28 : (.selects "HeadDeskModel" ⟨"HeadDeskModel", "expect", "(I)Z"⟩ ⟨"HeadDeskModel", "expect", "(I)Z"⟩ : Cond) ∈ aw := aw_s (by decide +kernel)
theorem ms_29 : (.selects "HeadDeskModel" ⟨"HeadDeskModel", "wrong", "(I)Z"⟩ ⟨"HeadDeskModel", "wrong", "(I)Z"⟩ : Cond) ∈ aw := aw_s (by decide +kernel)
theorem ms_30 : (.selects "HeadDeskModel" ⟨"HeadDeskModel", "target", "(Z)V"⟩ ⟨"HeadDeskModel", "target", "(Z)V"⟩ : Cond) ∈ aw := aw_s (by decide +kernel)
theorem ms_31 : (.selects "HeadDeskModel" ⟨"HeadDeskModel", "number", "(I)I"⟩ ⟨"HeadDeskModel", "number", "(I)I"⟩ : Cond) ∈ aw := aw_s (by decide +kernel)
theorem ms_32 : (.selects "HeadDeskModel" ⟨"HeadDeskModel", "line", "(Z)V"⟩ ⟨"HeadDeskModel", "line", "(Z)V"⟩ : Cond) ∈ aw := aw_s (by decide +kernel)
theorem ms_33 : (.selects "HeadDeskModel" ⟨"HeadDeskModel", "name", "()Z"⟩ ⟨"HeadDeskModel", "name", "()Z"⟩ : Cond) ∈ aw := aw_s (by decide +kernel)
theorem ms_34 : (.selects "HeadDeskModel" ⟨"HeadDeskModel", "isSame", "(IIII)Z"⟩ ⟨"HeadDeskModel", "isSame", "(IIII)Z"⟩ : Cond) ∈ aw := aw_s (by decide +kernel)
theorem ms_35 : (.selects "HeadDeskModel" ⟨"HeadDeskModel", "isNamed", "(Ljava/lang/String;)Z"⟩ ⟨"HeadDeskModel", "isNamed", "(Ljava/lang/String;)Z"⟩ : Cond) ∈ aw := aw_s (by decide +kernel)
theorem ms_36 : (.selects "HeadDeskModel" ⟨"HeadDeskModel", "range", "()V"⟩ ⟨"HeadDeskModel", "range", "()V"⟩ : Cond) ∈ aw := aw_s (by decide +kernel)
theorem ms_37 : (.selects "HeadDeskModel" ⟨"HeadDeskModel", "matching", "()V"⟩ ⟨"HeadDeskModel", "matching", "()V"⟩ : Cond) ∈ aw := aw_s (by decide +kernel)
theorem ms_38 : (.selects "HeadDeskModel" ⟨"HeadDeskModel", "list", "(Z)V"⟩ ⟨"HeadDeskModel", "list", "(Z)V"⟩ : Cond) ∈ aw := aw_s (by decide +kernel)
theorem ms_39 : (.selects "HeadDeskModel" ⟨"HeadDeskModel", "requestWord", "()V"⟩ ⟨"HeadDeskModel", "requestWord", "()V"⟩ : Cond) ∈ aw := aw_s (by decide +kernel)
theorem ms_40 : (.selects "HeadDeskModel" ⟨"HeadDeskModel", "isWord", "(Ljava/lang/String;)Z"⟩ ⟨"HeadDeskModel", "isWord", "(Ljava/lang/String;)Z"⟩ : Cond) ∈ aw := aw_s (by decide +kernel)
theorem ms_41 : (.selects "HeadDeskModel" ⟨"HeadDeskModel", "thingWord", "()V"⟩ ⟨"HeadDeskModel", "thingWord", "()V"⟩ : Cond) ∈ aw := aw_s (by decide +kernel)
theorem ms_42 : (.selects "HeadDeskModel" ⟨"HeadDeskModel", "keyLetters", "()V"⟩ ⟨"HeadDeskModel", "keyLetters", "()V"⟩ : Cond) ∈ aw := aw_s (by decide +kernel)
theorem ms_43 : (.selects "HeadDeskModel" ⟨"HeadDeskModel", "anyValue", "()V"⟩ ⟨"HeadDeskModel", "anyValue", "()V"⟩ : Cond) ∈ aw := aw_s (by decide +kernel)
theorem ms_44 : (.selects "HeadDeskModel" ⟨"HeadDeskModel", "keep", "(Z)V"⟩ ⟨"HeadDeskModel", "keep", "(Z)V"⟩ : Cond) ∈ aw := aw_s (by decide +kernel)
