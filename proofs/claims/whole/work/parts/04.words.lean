theorem m_1_0 : (.initialized "HeadDeskLaw" : Cond) ∈ aw := aw_1 (i := 0) rfl rfl
theorem m_1_1 : (.initialized "HeadDesk" : Cond) ∈ aw := aw_1 (i := 1) rfl rfl
theorem m_1_2 : (.initialized "HeadDesk$Reader" : Cond) ∈ aw := aw_1 (i := 2) rfl rfl
theorem m_1_3 : (.initialized "HeadDesk$Tape" : Cond) ∈ aw := aw_1 (i := 3) rfl rfl
theorem m_1_4 : (.initialized "HeadDesk$Head" : Cond) ∈ aw := aw_1 (i := 4) rfl rfl
theorem m_1_5 : (.initialized "HeadDeskModel" : Cond) ∈ aw := aw_1 (i := 5) rfl rfl
theorem m_1_6 : (.initialized "java/lang/Throwable" : Cond) ∈ aw := aw_1 (i := 6) rfl rfl
theorem m_1_7 : (.initialized "java/lang/Exception" : Cond) ∈ aw := aw_1 (i := 7) rfl rfl
theorem m_1_8 : (.initialized "java/lang/RuntimeException" : Cond) ∈ aw := aw_1 (i := 8) rfl rfl
theorem m_1_9 : (.initialized "java/lang/IllegalArgumentException" : Cond) ∈ aw := aw_1 (i := 9) rfl rfl
theorem m_1_10 : (.initialized "java/lang/System" : Cond) ∈ aw := aw_1 (i := 10) rfl rfl
theorem m_1_11 : (.initialized "java/lang/String" : Cond) ∈ aw := aw_1 (i := 11) rfl rfl
theorem m_1_12 : (.initialized "java/lang/StringLatin1" : Cond) ∈ aw := aw_1 (i := 12) rfl rfl
theorem m_1_13 : (.initialized "jdk/internal/util/Preconditions" : Cond) ∈ aw := aw_1 (i := 13) rfl rfl
theorem m_1_14 : (.initialized "java/lang/StringUTF16" : Cond) ∈ aw := aw_1 (i := 14) rfl rfl
theorem m_1_15 : (.initialized "java/lang/Math" : Cond) ∈ aw := aw_1 (i := 15) rfl rfl
theorem m_1_16 : (.classLink "HeadDeskLaw" 8 "HeadDesk" : Cond) ∈ aw := aw_1 (i := 16) rfl rfl
theorem m_1_17 : (.instantiable "HeadDesk" 5 : Cond) ∈ aw := aw_1 (i := 17) rfl rfl
theorem m_1_18 : (.methodLink "HeadDeskLaw" 15 ⟨"HeadDesk", "<init>", "()V"⟩ : Cond) ∈ aw := aw_1 (i := 18) rfl rfl
theorem m_1_19 : (.instanceMethod ⟨"HeadDesk", "<init>", "()V"⟩ : Cond) ∈ aw := aw_1 (i := 19) rfl rfl
theorem m_1_20 : (.code ⟨"HeadDesk", "<init>", "()V"⟩ prog_1_method_1_code 1 none : Cond) ∈ aw := aw_1 (i := 20) rfl rfl
theorem m_1_21 : (.methodLink "HeadDesk" 1 ⟨"java/lang/Object", "<init>", "()V"⟩ : Cond) ∈ aw := aw_1 (i := 21) rfl rfl
theorem m_1_22 : (.instanceMethod ⟨"java/lang/Object", "<init>", "()V"⟩ : Cond) ∈ aw := aw_1 (i := 22) rfl rfl
theorem m_1_23 : (.code ⟨"java/lang/Object", "<init>", "()V"⟩ object_method_1_code 1 none : Cond) ∈ aw := aw_1 (i := 23) rfl rfl
theorem m_1_24 : (.classLink "HeadDesk" 7 "HeadDesk$Reader" : Cond) ∈ aw := aw_1 (i := 24) rfl rfl
theorem m_1_25 : (.instantiable "HeadDesk$Reader" 11 : Cond) ∈ aw := aw_1 (i := 25) rfl rfl
theorem m_1_27 : (.instanceMethod ⟨"HeadDesk$Reader", "<init>", "()V"⟩ : Cond) ∈ aw := aw_1 (i := 27) rfl rfl
theorem m_1_28 : (.code ⟨"HeadDesk$Reader", "<init>", "()V"⟩ prog_3_method_1_code 1 none : Cond) ∈ aw := aw_1 (i := 28) rfl rfl
theorem m_1_29 : (.methodLink "HeadDesk$Reader" 5 ⟨"java/lang/Object", "<init>", "()V"⟩ : Cond) ∈ aw := aw_1 (i := 29) rfl rfl
theorem m_1_30 : (.classLink "HeadDesk$Reader" 1 "HeadDesk$Tape" : Cond) ∈ aw := aw_1 (i := 30) rfl rfl
theorem m_1_31 : (.instantiable "HeadDesk$Tape" 2 : Cond) ∈ aw := aw_1 (i := 31) rfl rfl
theorem m_1_33 : (.instanceMethod ⟨"HeadDesk$Tape", "<init>", "()V"⟩ : Cond) ∈ aw := aw_1 (i := 33) rfl rfl
theorem m_1_34 : (.code ⟨"HeadDesk$Tape", "<init>", "()V"⟩ prog_4_method_1_code 1 none : Cond) ∈ aw := aw_1 (i := 34) rfl rfl
theorem m_1_35 : (.methodLink "HeadDesk$Tape" 1 ⟨"java/lang/Object", "<init>", "()V"⟩ : Cond) ∈ aw := aw_1 (i := 35) rfl rfl
theorem m_1_36 : (.fieldLink "HeadDesk$Tape" 9 "HeadDesk$Tape" "marks" "[C" : Cond) ∈ aw := aw_1 (i := 36) rfl rfl
theorem m_1_37 : (.fieldLink "HeadDesk$Tape" 13 "HeadDesk$Tape" "length" "I" : Cond) ∈ aw := aw_1 (i := 37) rfl rfl
theorem m_1_43 : (.arrayClass .char : Cond) ∈ aw := aw_1 (i := 43) rfl rfl
theorem m_1_44 : (.classLink "HeadDesk$Reader" 25 "HeadDesk$Head" : Cond) ∈ aw := aw_1 (i := 44) rfl rfl
theorem m_1_45 : (.instantiable "HeadDesk$Head" 2 : Cond) ∈ aw := aw_1 (i := 45) rfl rfl
theorem m_1_47 : (.instanceMethod ⟨"HeadDesk$Head", "<init>", "()V"⟩ : Cond) ∈ aw := aw_1 (i := 47) rfl rfl
theorem m_1_48 : (.code ⟨"HeadDesk$Head", "<init>", "()V"⟩ prog_2_method_1_code 1 none : Cond) ∈ aw := aw_1 (i := 48) rfl rfl
theorem m_1_49 : (.methodLink "HeadDesk$Head" 3 ⟨"java/lang/Object", "<init>", "()V"⟩ : Cond) ∈ aw := aw_1 (i := 49) rfl rfl
theorem m_1_50 : (.fieldLink "HeadDesk$Head" 9 "HeadDesk$Head" "AT_FIRST" "[I" : Cond) ∈ aw := aw_1 (i := 50) rfl rfl
theorem m_1_52 : (.fieldLink "HeadDesk$Head" 15 "HeadDesk$Head" "values" "[I" : Cond) ∈ aw := aw_1 (i := 52) rfl rfl
theorem m_1_53 : (.fieldLink "HeadDesk$Head" 18 "HeadDesk$Head" "versions" "[I" : Cond) ∈ aw := aw_1 (i := 53) rfl rfl
theorem m_1_59 : (.arrayClass .int : Cond) ∈ aw := aw_1 (i := 59) rfl rfl
theorem m_1_60 : (.fieldLink "HeadDesk$Reader" 12 "HeadDesk$Reader" "tape" "LHeadDesk$Tape;" : Cond) ∈ aw := aw_1 (i := 60) rfl rfl
theorem m_1_61 : (.fieldLink "HeadDesk" 16 "HeadDesk$Reader" "tape" "LHeadDesk$Tape;" : Cond) ∈ aw := aw_1 (i := 61) rfl rfl
theorem m_1_62 : (.fieldLink "HeadDesk$Reader" 18 "HeadDesk$Reader" "nameStarts" "[I" : Cond) ∈ aw := aw_1 (i := 62) rfl rfl
theorem m_1_63 : (.fieldLink "HeadDesk$Reader" 22 "HeadDesk$Reader" "nameEnds" "[I" : Cond) ∈ aw := aw_1 (i := 63) rfl rfl
theorem m_1_64 : (.fieldLink "HeadDesk$Reader" 28 "HeadDesk$Reader" "draft" "LHeadDesk$Head;" : Cond) ∈ aw := aw_1 (i := 64) rfl rfl
theorem m_1_65 : (.fieldLink "HeadDesk$Reader" 32 "HeadDesk$Reader" "names" "I" : Cond) ∈ aw := aw_1 (i := 65) rfl rfl
theorem m_1_66 : (.fieldLink "HeadDesk$Reader" 36 "HeadDesk$Reader" "kind" "I" : Cond) ∈ aw := aw_1 (i := 66) rfl rfl
theorem m_1_67 : (.fieldLink "HeadDesk$Reader" 39 "HeadDesk$Reader" "place" "I" : Cond) ∈ aw := aw_1 (i := 67) rfl rfl
theorem m_1_68 : (.fieldLink "HeadDesk$Reader" 42 "HeadDesk$Reader" "stuck" "I" : Cond) ∈ aw := aw_1 (i := 68) rfl rfl
theorem m_1_69 : (.fieldLink "HeadDesk$Reader" 45 "HeadDesk$Reader" "number" "I" : Cond) ∈ aw := aw_1 (i := 69) rfl rfl
theorem m_1_70 : (.fieldLink "HeadDesk$Reader" 48 "HeadDesk$Reader" "wordStart" "I" : Cond) ∈ aw := aw_1 (i := 70) rfl rfl
theorem m_1_71 : (.fieldLink "HeadDesk$Reader" 51 "HeadDesk$Reader" "wordEnd" "I" : Cond) ∈ aw := aw_1 (i := 71) rfl rfl
theorem m_1_95 : (.classLink "HeadDesk" 21 "HeadDesk$Head" : Cond) ∈ aw := aw_1 (i := 95) rfl rfl
theorem m_1_97 : (.fieldLink "HeadDesk" 10 "HeadDesk" "reader" "LHeadDesk$Reader;" : Cond) ∈ aw := aw_1 (i := 97) rfl rfl
theorem m_1_98 : (.fieldLink "HeadDesk" 20 "HeadDesk" "tape" "LHeadDesk$Tape;" : Cond) ∈ aw := aw_1 (i := 98) rfl rfl
theorem m_1_99 : (.fieldLink "HeadDesk" 24 "HeadDesk" "good" "LHeadDesk$Head;" : Cond) ∈ aw := aw_1 (i := 99) rfl rfl
theorem m_1_100 : (.fieldLink "HeadDesk" 28 "HeadDesk" "goodTexts" "I" : Cond) ∈ aw := aw_1 (i := 100) rfl rfl
theorem m_1_101 : (.fieldLink "HeadDesk" 32 "HeadDesk" "latestFault" "I" : Cond) ∈ aw := aw_1 (i := 101) rfl rfl
theorem m_1_113 : (.methodLink "HeadDeskLaw" 21 ⟨"HeadDesk", "type", "(JI)Z"⟩ : Cond) ∈ aw := aw_1 (i := 113) rfl rfl
theorem m_1_114 : (.instanceMethod ⟨"HeadDesk", "type", "(JI)Z"⟩ : Cond) ∈ aw := aw_1 (i := 114) rfl rfl
theorem m_1_115 : (.selects "HeadDesk" ⟨"HeadDesk", "type", "(JI)Z"⟩ ⟨"HeadDesk", "type", "(JI)Z"⟩ : Cond) ∈ aw := aw_1 (i := 115) rfl rfl
theorem m_1_116 : (.code ⟨"HeadDesk", "type", "(JI)Z"⟩ prog_1_method_2_code 4 (some .boolean) : Cond) ∈ aw := aw_1 (i := 116) rfl rfl
theorem m_1_117 : (.methodLink "HeadDesk" 35 ⟨"HeadDesk$Tape", "append", "(JI)Z"⟩ : Cond) ∈ aw := aw_1 (i := 117) rfl rfl
theorem m_1_118 : (.instanceMethod ⟨"HeadDesk$Tape", "append", "(JI)Z"⟩ : Cond) ∈ aw := aw_1 (i := 118) rfl rfl
theorem m_1_119 : (.selects "HeadDesk$Tape" ⟨"HeadDesk$Tape", "append", "(JI)Z"⟩ ⟨"HeadDesk$Tape", "append", "(JI)Z"⟩ : Cond) ∈ aw := aw_1 (i := 119) rfl rfl
theorem m_1_120 : (.code ⟨"HeadDesk$Tape", "append", "(JI)Z"⟩ prog_4_method_2_code 5 (some .boolean) : Cond) ∈ aw := aw_1 (i := 120) rfl rfl
theorem m_1_121 : (.methodLink "HeadDesk$Tape" 17 ⟨"HeadDesk$Tape", "byteOf", "(JI)I"⟩ : Cond) ∈ aw := aw_1 (i := 121) rfl rfl
theorem m_1_122 : (.static ⟨"HeadDesk$Tape", "byteOf", "(JI)I"⟩ : Cond) ∈ aw := aw_1 (i := 122) rfl rfl
theorem m_1_123 : (.code ⟨"HeadDesk$Tape", "byteOf", "(JI)I"⟩ prog_4_method_5_code 3 (some .int) : Cond) ∈ aw := aw_1 (i := 123) rfl rfl
theorem m_1_124 : (.methodLink "HeadDesk$Tape" 21 ⟨"HeadDesk$Tape", "mayStand", "(I)Z"⟩ : Cond) ∈ aw := aw_1 (i := 124) rfl rfl
theorem m_1_125 : (.static ⟨"HeadDesk$Tape", "mayStand", "(I)Z"⟩ : Cond) ∈ aw := aw_1 (i := 125) rfl rfl
theorem m_1_126 : (.code ⟨"HeadDesk$Tape", "mayStand", "(I)Z"⟩ prog_4_method_6_code 1 (some .boolean) : Cond) ∈ aw := aw_1 (i := 126) rfl rfl
theorem m_1_127 : (.methodLink "HeadDeskLaw" 36 ⟨"HeadDesk", "fault", "()I"⟩ : Cond) ∈ aw := aw_1 (i := 127) rfl rfl
theorem m_1_128 : (.instanceMethod ⟨"HeadDesk", "fault", "()I"⟩ : Cond) ∈ aw := aw_1 (i := 128) rfl rfl
theorem m_1_129 : (.selects "HeadDesk" ⟨"HeadDesk", "fault", "()I"⟩ ⟨"HeadDesk", "fault", "()I"⟩ : Cond) ∈ aw := aw_1 (i := 129) rfl rfl
theorem m_1_130 : (.code ⟨"HeadDesk", "fault", "()I"⟩ prog_1_method_4_code 1 (some .int) : Cond) ∈ aw := aw_1 (i := 130) rfl rfl
theorem m_1_131 : (.methodLink "HeadDeskLaw" 40 ⟨"HeadDesk", "told", "(I)I"⟩ : Cond) ∈ aw := aw_1 (i := 131) rfl rfl
theorem m_1_132 : (.instanceMethod ⟨"HeadDesk", "told", "(I)I"⟩ : Cond) ∈ aw := aw_1 (i := 132) rfl rfl
theorem m_1_133 : (.selects "HeadDesk" ⟨"HeadDesk", "told", "(I)I"⟩ ⟨"HeadDesk", "told", "(I)I"⟩ : Cond) ∈ aw := aw_1 (i := 133) rfl rfl
theorem m_1_134 : (.code ⟨"HeadDesk", "told", "(I)I"⟩ prog_1_method_5_code 2 (some .int) : Cond) ∈ aw := aw_1 (i := 134) rfl rfl
theorem m_1_135 : (.methodLink "HeadDesk" 65 ⟨"HeadDesk$Head", "get", "(I)I"⟩ : Cond) ∈ aw := aw_1 (i := 135) rfl rfl
theorem m_1_136 : (.instanceMethod ⟨"HeadDesk$Head", "get", "(I)I"⟩ : Cond) ∈ aw := aw_1 (i := 136) rfl rfl
theorem m_1_137 : (.selects "HeadDesk$Head" ⟨"HeadDesk$Head", "get", "(I)I"⟩ ⟨"HeadDesk$Head", "get", "(I)I"⟩ : Cond) ∈ aw := aw_1 (i := 137) rfl rfl
theorem m_1_138 : (.code ⟨"HeadDesk$Head", "get", "(I)I"⟩ prog_2_method_3_code 2 (some .int) : Cond) ∈ aw := aw_1 (i := 138) rfl rfl
theorem m_1_139 : (.methodLink "HeadDeskLaw" 44 ⟨"HeadDesk", "matches", "(I)Z"⟩ : Cond) ∈ aw := aw_1 (i := 139) rfl rfl
theorem m_1_140 : (.instanceMethod ⟨"HeadDesk", "matches", "(I)Z"⟩ : Cond) ∈ aw := aw_1 (i := 140) rfl rfl
theorem m_1_141 : (.selects "HeadDesk" ⟨"HeadDesk", "matches", "(I)Z"⟩ ⟨"HeadDesk", "matches", "(I)Z"⟩ : Cond) ∈ aw := aw_1 (i := 141) rfl rfl
theorem m_1_142 : (.code ⟨"HeadDesk", "matches", "(I)Z"⟩ prog_1_method_6_code 2 (some .boolean) : Cond) ∈ aw := aw_1 (i := 142) rfl rfl
theorem m_1_143 : (.methodLink "HeadDesk" 69 ⟨"HeadDesk$Head", "coversVersion", "(I)Z"⟩ : Cond) ∈ aw := aw_1 (i := 143) rfl rfl
theorem m_1_144 : (.instanceMethod ⟨"HeadDesk$Head", "coversVersion", "(I)Z"⟩ : Cond) ∈ aw := aw_1 (i := 144) rfl rfl
theorem m_1_145 : (.selects "HeadDesk$Head" ⟨"HeadDesk$Head", "coversVersion", "(I)Z"⟩ ⟨"HeadDesk$Head", "coversVersion", "(I)Z"⟩ : Cond) ∈ aw := aw_1 (i := 145) rfl rfl
theorem m_1_146 : (.code ⟨"HeadDesk$Head", "coversVersion", "(I)Z"⟩ prog_2_method_8_code 2 (some .boolean) : Cond) ∈ aw := aw_1 (i := 146) rfl rfl
theorem m_1_147 : (.methodLink "HeadDesk$Head" 27 ⟨"HeadDesk$Head", "hasVersion", "(I)Z"⟩ : Cond) ∈ aw := aw_1 (i := 147) rfl rfl
theorem m_1_149 : (.instanceMethod ⟨"HeadDesk$Head", "hasVersion", "(I)Z"⟩ : Cond) ∈ aw := aw_1 (i := 149) rfl rfl
theorem m_1_150 : (.code ⟨"HeadDesk$Head", "hasVersion", "(I)Z"⟩ prog_2_method_9_code 3 (some .boolean) : Cond) ∈ aw := aw_1 (i := 150) rfl rfl
theorem m_1_151 : (.methodLink "HeadDeskLaw" 49 ⟨"HeadDesk", "bytes", "(II)I"⟩ : Cond) ∈ aw := aw_1 (i := 151) rfl rfl
theorem m_1_152 : (.instanceMethod ⟨"HeadDesk", "bytes", "(II)I"⟩ : Cond) ∈ aw := aw_1 (i := 152) rfl rfl
theorem m_1_153 : (.selects "HeadDesk" ⟨"HeadDesk", "bytes", "(II)I"⟩ ⟨"HeadDesk", "bytes", "(II)I"⟩ : Cond) ∈ aw := aw_1 (i := 153) rfl rfl
theorem m_1_154 : (.code ⟨"HeadDesk", "bytes", "(II)I"⟩ prog_1_method_7_code 6 (some .int) : Cond) ∈ aw := aw_1 (i := 154) rfl rfl
theorem m_1_155 : (.methodLink "HeadDesk" 72 ⟨"HeadDesk$Head", "firstByte", "(I)I"⟩ : Cond) ∈ aw := aw_1 (i := 155) rfl rfl
theorem m_1_156 : (.instanceMethod ⟨"HeadDesk$Head", "firstByte", "(I)I"⟩ : Cond) ∈ aw := aw_1 (i := 156) rfl rfl
theorem m_1_157 : (.selects "HeadDesk$Head" ⟨"HeadDesk$Head", "firstByte", "(I)I"⟩ ⟨"HeadDesk$Head", "firstByte", "(I)I"⟩ : Cond) ∈ aw := aw_1 (i := 157) rfl rfl
theorem m_1_158 : (.code ⟨"HeadDesk$Head", "firstByte", "(I)I"⟩ prog_2_method_10_code 2 (some .int) : Cond) ∈ aw := aw_1 (i := 158) rfl rfl
theorem m_1_159 : (.methodLink "HeadDesk$Head" 31 ⟨"java/lang/Math", "min", "(II)I"⟩ : Cond) ∈ aw := aw_1 (i := 159) rfl rfl
theorem m_1_160 : (.static ⟨"java/lang/Math", "min", "(II)I"⟩ : Cond) ∈ aw := aw_1 (i := 160) rfl rfl
theorem m_1_161 : (.code ⟨"java/lang/Math", "min", "(II)I"⟩ prog_9_method_69_code 2 (some .int) : Cond) ∈ aw := aw_1 (i := 161) rfl rfl
theorem m_1_162 : (.methodLink "HeadDesk" 75 ⟨"HeadDesk$Head", "lastByte", "(I)I"⟩ : Cond) ∈ aw := aw_1 (i := 162) rfl rfl
theorem m_1_163 : (.instanceMethod ⟨"HeadDesk$Head", "lastByte", "(I)I"⟩ : Cond) ∈ aw := aw_1 (i := 163) rfl rfl
theorem m_1_164 : (.selects "HeadDesk$Head" ⟨"HeadDesk$Head", "lastByte", "(I)I"⟩ ⟨"HeadDesk$Head", "lastByte", "(I)I"⟩ : Cond) ∈ aw := aw_1 (i := 164) rfl rfl
theorem m_1_165 : (.code ⟨"HeadDesk$Head", "lastByte", "(I)I"⟩ prog_2_method_11_code 2 (some .int) : Cond) ∈ aw := aw_1 (i := 165) rfl rfl
theorem m_1_166 : (.methodLink "HeadDesk" 78 ⟨"java/lang/Math", "max", "(II)I"⟩ : Cond) ∈ aw := aw_1 (i := 166) rfl rfl
theorem m_1_167 : (.static ⟨"java/lang/Math", "max", "(II)I"⟩ : Cond) ∈ aw := aw_1 (i := 167) rfl rfl
theorem m_1_168 : (.code ⟨"java/lang/Math", "max", "(II)I"⟩ prog_9_method_65_code 2 (some .int) : Cond) ∈ aw := aw_1 (i := 168) rfl rfl
theorem m_1_169 : (.methodLink "HeadDeskLaw" 26 ⟨"HeadDeskLaw", "read", "(LHeadDesk;I[J)I"⟩ : Cond) ∈ aw := aw_1 (i := 169) rfl rfl
theorem m_1_170 : (.static ⟨"HeadDeskLaw", "read", "(LHeadDesk;I[J)I"⟩ : Cond) ∈ aw := aw_1 (i := 170) rfl rfl
theorem m_1_171 : (.codeWith ⟨"HeadDeskLaw", "read", "(LHeadDesk;I[J)I"⟩ method_3_code 4 (some .int) [(0, 9, 12, 13)] : Cond) ∈ aw := aw_1 (i := 171) rfl rfl
theorem m_1_172 : (.classLink "HeadDeskLaw" 13 "java/lang/IllegalArgumentException" : Cond) ∈ aw := aw_1 (i := 172) rfl rfl
theorem m_1_173 : (.methodLink "HeadDeskLaw" 7 ⟨"HeadDesk", "read", "(I)I"⟩ : Cond) ∈ aw := aw_1 (i := 173) rfl rfl
theorem m_1_174 : (.instanceMethod ⟨"HeadDesk", "read", "(I)I"⟩ : Cond) ∈ aw := aw_1 (i := 174) rfl rfl
theorem m_1_175 : (.selects "HeadDesk" ⟨"HeadDesk", "read", "(I)I"⟩ ⟨"HeadDesk", "read", "(I)I"⟩ : Cond) ∈ aw := aw_1 (i := 175) rfl rfl
theorem m_1_176 : (.code ⟨"HeadDesk", "read", "(I)I"⟩ prog_1_method_3_code 3 (some .int) : Cond) ∈ aw := aw_1 (i := 176) rfl rfl
theorem m_1_177 : (.classLink "HeadDesk" 41 "java/lang/IllegalArgumentException" : Cond) ∈ aw := aw_1 (i := 177) rfl rfl
theorem m_1_178 : (.instantiable "java/lang/IllegalArgumentException" 6 : Cond) ∈ aw := aw_1 (i := 178) rfl rfl
theorem m_1_186 : (.selects "java/lang/IllegalArgumentException" ⟨"java/lang/Throwable", "fillInStackTrace", "(I)Ljava/lang/Throwable;"⟩ ⟨"java/lang/Throwable", "fillInStackTrace", "(I)Ljava/lang/Throwable;"⟩ : Cond) ∈ aw := aw_1 (i := 186) rfl rfl
theorem m_1_187 : (.selects "java/lang/IllegalArgumentException" ⟨"java/lang/Throwable", "fillInStackTrace", "()Ljava/lang/Throwable;"⟩ ⟨"java/lang/Throwable", "fillInStackTrace", "()Ljava/lang/Throwable;"⟩ : Cond) ∈ aw := aw_1 (i := 187) rfl rfl
theorem m_1_198 : (.fieldLink "java/lang/Throwable" 198 "java/lang/Throwable" "backtrace" "Ljava/lang/Object;" : Cond) ∈ aw := aw_1 (i := 198) rfl rfl
theorem m_1_200 : (.instanceMethod ⟨"java/lang/Throwable", "<init>", "()V"⟩ : Cond) ∈ aw := aw_1 (i := 200) rfl rfl
theorem m_1_201 : (.code ⟨"java/lang/Throwable", "<init>", "()V"⟩ prog_15_method_1_code 1 none : Cond) ∈ aw := aw_1 (i := 201) rfl rfl
theorem m_1_202 : (.methodLink "java/lang/Throwable" 1 ⟨"java/lang/Object", "<init>", "()V"⟩ : Cond) ∈ aw := aw_1 (i := 202) rfl rfl
theorem m_1_203 : (.fieldLink "java/lang/Throwable" 13 "java/lang/Throwable" "UNASSIGNED_STACK" "[Ljava/lang/StackTraceElement;" : Cond) ∈ aw := aw_1 (i := 203) rfl rfl
theorem m_1_205 : (.fieldLink "java/lang/Throwable" 20 "java/lang/Throwable" "SUPPRESSED_SENTINEL" "Ljava/util/List;" : Cond) ∈ aw := aw_1 (i := 205) rfl rfl
theorem m_1_207 : (.methodLink "java/lang/Throwable" 27 ⟨"java/lang/Throwable", "fillInStackTrace", "()Ljava/lang/Throwable;"⟩ : Cond) ∈ aw := aw_1 (i := 207) rfl rfl
theorem m_1_208 : (.instanceMethod ⟨"java/lang/Throwable", "fillInStackTrace", "()Ljava/lang/Throwable;"⟩ : Cond) ∈ aw := aw_1 (i := 208) rfl rfl
theorem m_1_211 : (.methodLink "java/lang/Throwable" 202 ⟨"java/lang/Throwable", "fillInStackTrace", "(I)Ljava/lang/Throwable;"⟩ : Cond) ∈ aw := aw_1 (i := 211) rfl rfl
theorem m_1_213 : (.instanceMethod ⟨"java/lang/Throwable", "fillInStackTrace", "(I)Ljava/lang/Throwable;"⟩ : Cond) ∈ aw := aw_1 (i := 213) rfl rfl
theorem m_1_214 : (.instantiable "java/lang/Throwable" 6 : Cond) ∈ aw := aw_1 (i := 214) rfl rfl
theorem m_1_215 : (.native ⟨"java/lang/Throwable", "fillInStackTrace", "(I)Ljava/lang/Throwable;"⟩ : Cond) ∈ aw := aw_1 (i := 215) rfl rfl
theorem m_1_217 : (.methodLink "HeadDesk" 45 ⟨"java/lang/IllegalArgumentException", "<init>", "(Ljava/lang/String;)V"⟩ : Cond) ∈ aw := aw_1 (i := 217) rfl rfl
theorem m_1_218 : (.instanceMethod ⟨"java/lang/IllegalArgumentException", "<init>", "(Ljava/lang/String;)V"⟩ : Cond) ∈ aw := aw_1 (i := 218) rfl rfl
theorem m_1_219 : (.code ⟨"java/lang/IllegalArgumentException", "<init>", "(Ljava/lang/String;)V"⟩ prog_8_method_2_code 2 none : Cond) ∈ aw := aw_1 (i := 219) rfl rfl
theorem m_1_220 : (.methodLink "java/lang/IllegalArgumentException" 7 ⟨"java/lang/RuntimeException", "<init>", "(Ljava/lang/String;)V"⟩ : Cond) ∈ aw := aw_1 (i := 220) rfl rfl
theorem m_1_221 : (.instanceMethod ⟨"java/lang/RuntimeException", "<init>", "(Ljava/lang/String;)V"⟩ : Cond) ∈ aw := aw_1 (i := 221) rfl rfl
theorem m_1_222 : (.code ⟨"java/lang/RuntimeException", "<init>", "(Ljava/lang/String;)V"⟩ prog_10_method_2_code 2 none : Cond) ∈ aw := aw_1 (i := 222) rfl rfl
theorem m_1_223 : (.methodLink "java/lang/RuntimeException" 7 ⟨"java/lang/Exception", "<init>", "(Ljava/lang/String;)V"⟩ : Cond) ∈ aw := aw_1 (i := 223) rfl rfl
theorem m_1_224 : (.instanceMethod ⟨"java/lang/Exception", "<init>", "(Ljava/lang/String;)V"⟩ : Cond) ∈ aw := aw_1 (i := 224) rfl rfl
theorem m_1_225 : (.code ⟨"java/lang/Exception", "<init>", "(Ljava/lang/String;)V"⟩ prog_7_method_2_code 2 none : Cond) ∈ aw := aw_1 (i := 225) rfl rfl
theorem m_1_226 : (.methodLink "java/lang/Exception" 7 ⟨"java/lang/Throwable", "<init>", "(Ljava/lang/String;)V"⟩ : Cond) ∈ aw := aw_1 (i := 226) rfl rfl
theorem m_1_227 : (.instanceMethod ⟨"java/lang/Throwable", "<init>", "(Ljava/lang/String;)V"⟩ : Cond) ∈ aw := aw_1 (i := 227) rfl rfl
theorem m_1_228 : (.code ⟨"java/lang/Throwable", "<init>", "(Ljava/lang/String;)V"⟩ prog_15_method_2_code 2 none : Cond) ∈ aw := aw_1 (i := 228) rfl rfl
theorem m_1_230 : (.fieldLink "java/lang/Throwable" 31 "java/lang/Throwable" "detailMessage" "Ljava/lang/String;" : Cond) ∈ aw := aw_1 (i := 230) rfl rfl
theorem m_1_231 : (.fieldLink "java/lang/Throwable" 7 "java/lang/Throwable" "cause" "Ljava/lang/Throwable;" : Cond) ∈ aw := aw_1 (i := 231) rfl rfl
theorem m_1_232 : (.fieldLink "java/lang/Throwable" 17 "java/lang/Throwable" "stackTrace" "[Ljava/lang/StackTraceElement;" : Cond) ∈ aw := aw_1 (i := 232) rfl rfl
theorem m_1_233 : (.fieldLink "java/lang/Throwable" 24 "java/lang/Throwable" "suppressedExceptions" "Ljava/util/List;" : Cond) ∈ aw := aw_1 (i := 233) rfl rfl
theorem m_2_2 : (.arrayClass .byte : Cond) ∈ aw := aw_2 (i := 2) rfl rfl
theorem m_2_3 : (.methodLink "HeadDesk" 48 ⟨"HeadDesk$Reader", "readText", "(I)Z"⟩ : Cond) ∈ aw := aw_2 (i := 3) rfl rfl
theorem m_2_4 : (.instanceMethod ⟨"HeadDesk$Reader", "readText", "(I)Z"⟩ : Cond) ∈ aw := aw_2 (i := 4) rfl rfl
theorem m_2_5 : (.selects "HeadDesk$Reader" ⟨"HeadDesk$Reader", "readText", "(I)Z"⟩ ⟨"HeadDesk$Reader", "readText", "(I)Z"⟩ : Cond) ∈ aw := aw_2 (i := 5) rfl rfl
theorem m_2_6 : (.code ⟨"HeadDesk$Reader", "readText", "(I)Z"⟩ prog_3_method_4_code 3 (some .boolean) : Cond) ∈ aw := aw_2 (i := 6) rfl rfl
theorem m_2_7 : (.methodLink "HeadDesk$Reader" 54 ⟨"HeadDesk$Head", "clear", "()V"⟩ : Cond) ∈ aw := aw_2 (i := 7) rfl rfl
theorem m_2_8 : (.instanceMethod ⟨"HeadDesk$Head", "clear", "()V"⟩ : Cond) ∈ aw := aw_2 (i := 8) rfl rfl
theorem m_2_9 : (.selects "HeadDesk$Head" ⟨"HeadDesk$Head", "clear", "()V"⟩ ⟨"HeadDesk$Head", "clear", "()V"⟩ : Cond) ∈ aw := aw_2 (i := 9) rfl rfl
theorem m_2_10 : (.code ⟨"HeadDesk$Head", "clear", "()V"⟩ prog_2_method_2_code 1 none : Cond) ∈ aw := aw_2 (i := 10) rfl rfl
theorem m_2_11 : (.methodLink "HeadDesk$Head" 21 ⟨"java/lang/System", "arraycopy", "(Ljava/lang/Object;ILjava/lang/Object;II)V"⟩ : Cond) ∈ aw := aw_2 (i := 11) rfl rfl
theorem m_2_12 : (.static ⟨"java/lang/System", "arraycopy", "(Ljava/lang/Object;ILjava/lang/Object;II)V"⟩ : Cond) ∈ aw := aw_2 (i := 12) rfl rfl
theorem m_2_13 : (.native ⟨"java/lang/System", "arraycopy", "(Ljava/lang/Object;ILjava/lang/Object;II)V"⟩ : Cond) ∈ aw := aw_2 (i := 13) rfl rfl
theorem m_2_14 : (.methodLink "HeadDesk$Reader" 57 ⟨"HeadDesk$Reader", "readFirstLine", "()Z"⟩ : Cond) ∈ aw := aw_2 (i := 14) rfl rfl
theorem m_2_16 : (.instanceMethod ⟨"HeadDesk$Reader", "readFirstLine", "()Z"⟩ : Cond) ∈ aw := aw_2 (i := 16) rfl rfl
theorem m_2_17 : (.code ⟨"HeadDesk$Reader", "readFirstLine", "()Z"⟩ prog_3_method_5_code 1 (some .boolean) : Cond) ∈ aw := aw_2 (i := 17) rfl rfl
theorem m_2_18 : (.methodLink "HeadDesk$Reader" 82 ⟨"HeadDesk$Reader", "readVerb", "()Z"⟩ : Cond) ∈ aw := aw_2 (i := 18) rfl rfl
theorem m_2_20 : (.instanceMethod ⟨"HeadDesk$Reader", "readVerb", "()Z"⟩ : Cond) ∈ aw := aw_2 (i := 20) rfl rfl
theorem m_2_21 : (.code ⟨"HeadDesk$Reader", "readVerb", "()Z"⟩ prog_3_method_6_code 1 (some .boolean) : Cond) ∈ aw := aw_2 (i := 21) rfl rfl
theorem m_2_22 : (.methodLink "HeadDesk$Reader" 88 ⟨"HeadDesk$Head", "set", "(II)V"⟩ : Cond) ∈ aw := aw_2 (i := 22) rfl rfl
theorem m_2_23 : (.instanceMethod ⟨"HeadDesk$Head", "set", "(II)V"⟩ : Cond) ∈ aw := aw_2 (i := 23) rfl rfl
theorem m_2_24 : (.selects "HeadDesk$Head" ⟨"HeadDesk$Head", "set", "(II)V"⟩ ⟨"HeadDesk$Head", "set", "(II)V"⟩ : Cond) ∈ aw := aw_2 (i := 24) rfl rfl
theorem m_2_25 : (.code ⟨"HeadDesk$Head", "set", "(II)V"⟩ prog_2_method_4_code 3 none : Cond) ∈ aw := aw_2 (i := 25) rfl rfl
theorem m_2_27 : (.methodLink "HeadDesk$Reader" 94 ⟨"HeadDesk$Reader", "takeAll", "(Ljava/lang/String;)Z"⟩ : Cond) ∈ aw := aw_2 (i := 27) rfl rfl
theorem m_2_29 : (.instanceMethod ⟨"HeadDesk$Reader", "takeAll", "(Ljava/lang/String;)Z"⟩ : Cond) ∈ aw := aw_2 (i := 29) rfl rfl
theorem m_2_30 : (.code ⟨"HeadDesk$Reader", "takeAll", "(Ljava/lang/String;)Z"⟩ prog_3_method_23_code 3 (some .boolean) : Cond) ∈ aw := aw_2 (i := 30) rfl rfl
theorem m_2_31 : (.methodLink "HeadDesk$Reader" 189 ⟨"java/lang/String", "length", "()I"⟩ : Cond) ∈ aw := aw_2 (i := 31) rfl rfl
theorem m_2_32 : (.instanceMethod ⟨"java/lang/String", "length", "()I"⟩ : Cond) ∈ aw := aw_2 (i := 32) rfl rfl
theorem m_2_33 : (.selects "java/lang/String" ⟨"java/lang/String", "length", "()I"⟩ ⟨"java/lang/String", "length", "()I"⟩ : Cond) ∈ aw := aw_2 (i := 33) rfl rfl
theorem m_2_34 : (.code ⟨"java/lang/String", "length", "()I"⟩ prog_11_method_54_code 1 (some .int) : Cond) ∈ aw := aw_2 (i := 34) rfl rfl
theorem m_2_35 : (.methodLink "java/lang/String" 335 ⟨"java/lang/String", "coder", "()B"⟩ : Cond) ∈ aw := aw_2 (i := 35) rfl rfl
theorem m_2_36 : (.instanceMethod ⟨"java/lang/String", "coder", "()B"⟩ : Cond) ∈ aw := aw_2 (i := 36) rfl rfl
theorem m_2_37 : (.selects "java/lang/String" ⟨"java/lang/String", "coder", "()B"⟩ ⟨"java/lang/String", "coder", "()B"⟩ : Cond) ∈ aw := aw_2 (i := 37) rfl rfl
theorem m_2_38 : (.code ⟨"java/lang/String", "coder", "()B"⟩ prog_11_method_152_code 1 (some .byte) : Cond) ∈ aw := aw_2 (i := 38) rfl rfl
theorem m_2_39 : (.fieldLink "java/lang/String" 38 "java/lang/String" "COMPACT_STRINGS" "Z" : Cond) ∈ aw := aw_2 (i := 39) rfl rfl
theorem m_2_41 : (.methodLink "HeadDesk$Reader" 65 ⟨"HeadDesk$Reader", "mark", "()I"⟩ : Cond) ∈ aw := aw_2 (i := 41) rfl rfl
theorem m_2_43 : (.instanceMethod ⟨"HeadDesk$Reader", "mark", "()I"⟩ : Cond) ∈ aw := aw_2 (i := 43) rfl rfl
theorem m_2_44 : (.code ⟨"HeadDesk$Reader", "mark", "()I"⟩ prog_3_method_19_code 1 (some .int) : Cond) ∈ aw := aw_2 (i := 44) rfl rfl
theorem m_2_45 : (.methodLink "HeadDesk$Reader" 185 ⟨"HeadDesk$Tape", "markAt", "(I)I"⟩ : Cond) ∈ aw := aw_2 (i := 45) rfl rfl
theorem m_2_46 : (.instanceMethod ⟨"HeadDesk$Tape", "markAt", "(I)I"⟩ : Cond) ∈ aw := aw_2 (i := 46) rfl rfl
theorem m_2_47 : (.selects "HeadDesk$Tape" ⟨"HeadDesk$Tape", "markAt", "(I)I"⟩ ⟨"HeadDesk$Tape", "markAt", "(I)I"⟩ : Cond) ∈ aw := aw_2 (i := 47) rfl rfl
theorem m_2_48 : (.code ⟨"HeadDesk$Tape", "markAt", "(I)I"⟩ prog_4_method_4_code 2 (some .int) : Cond) ∈ aw := aw_2 (i := 48) rfl rfl
theorem m_2_49 : (.methodLink "HeadDesk$Reader" 193 ⟨"java/lang/String", "charAt", "(I)C"⟩ : Cond) ∈ aw := aw_2 (i := 49) rfl rfl
theorem m_2_50 : (.instanceMethod ⟨"java/lang/String", "charAt", "(I)C"⟩ : Cond) ∈ aw := aw_2 (i := 50) rfl rfl
theorem m_2_51 : (.selects "java/lang/String" ⟨"java/lang/String", "charAt", "(I)C"⟩ ⟨"java/lang/String", "charAt", "(I)C"⟩ : Cond) ∈ aw := aw_2 (i := 51) rfl rfl
theorem m_2_52 : (.code ⟨"java/lang/String", "charAt", "(I)C"⟩ prog_11_method_56_code 2 (some .char) : Cond) ∈ aw := aw_2 (i := 52) rfl rfl
theorem m_2_53 : (.methodLink "java/lang/String" 492 ⟨"java/lang/String", "isLatin1", "()Z"⟩ : Cond) ∈ aw := aw_2 (i := 53) rfl rfl
theorem m_2_54 : (.instanceMethod ⟨"java/lang/String", "isLatin1", "()Z"⟩ : Cond) ∈ aw := aw_2 (i := 54) rfl rfl
theorem m_2_55 : (.selects "java/lang/String" ⟨"java/lang/String", "isLatin1", "()Z"⟩ ⟨"java/lang/String", "isLatin1", "()Z"⟩ : Cond) ∈ aw := aw_2 (i := 55) rfl rfl
theorem m_2_56 : (.code ⟨"java/lang/String", "isLatin1", "()Z"⟩ prog_11_method_154_code 1 (some .boolean) : Cond) ∈ aw := aw_2 (i := 56) rfl rfl
theorem m_2_57 : (.methodLink "java/lang/String" 495 ⟨"java/lang/StringLatin1", "charAt", "([BI)C"⟩ : Cond) ∈ aw := aw_2 (i := 57) rfl rfl
theorem m_2_58 : (.static ⟨"java/lang/StringLatin1", "charAt", "([BI)C"⟩ : Cond) ∈ aw := aw_2 (i := 58) rfl rfl
theorem m_2_59 : (.code ⟨"java/lang/StringLatin1", "charAt", "([BI)C"⟩ prog_12_method_2_code 2 (some .char) : Cond) ∈ aw := aw_2 (i := 59) rfl rfl
theorem m_2_60 : (.methodLink "java/lang/StringLatin1" 9 ⟨"java/lang/String", "checkIndex", "(II)V"⟩ : Cond) ∈ aw := aw_2 (i := 60) rfl rfl
theorem m_2_61 : (.static ⟨"java/lang/String", "checkIndex", "(II)V"⟩ : Cond) ∈ aw := aw_2 (i := 61) rfl rfl
theorem m_2_62 : (.code ⟨"java/lang/String", "checkIndex", "(II)V"⟩ prog_11_method_155_code 2 none : Cond) ∈ aw := aw_2 (i := 62) rfl rfl
theorem m_2_63 : (.fieldLink "java/lang/String" 1053 "jdk/internal/util/Preconditions" "SIOOBE_FORMATTER" "Ljava/util/function/BiFunction;" : Cond) ∈ aw := aw_2 (i := 63) rfl rfl
theorem m_2_65 : (.methodLink "java/lang/String" 1059 ⟨"jdk/internal/util/Preconditions", "checkIndex", "(IILjava/util/function/BiFunction;)I"⟩ : Cond) ∈ aw := aw_2 (i := 65) rfl rfl
theorem m_2_66 : (.static ⟨"jdk/internal/util/Preconditions", "checkIndex", "(IILjava/util/function/BiFunction;)I"⟩ : Cond) ∈ aw := aw_2 (i := 66) rfl rfl
theorem m_2_67 : (.code ⟨"jdk/internal/util/Preconditions", "checkIndex", "(IILjava/util/function/BiFunction;)I"⟩ prog_16_method_11_code 3 (some .int) : Cond) ∈ aw := aw_2 (i := 67) rfl rfl
theorem m_2_68 : (.methodLink "java/lang/String" 498 ⟨"java/lang/StringUTF16", "charAt", "([BI)C"⟩ : Cond) ∈ aw := aw_2 (i := 68) rfl rfl
theorem m_2_69 : (.static ⟨"java/lang/StringUTF16", "charAt", "([BI)C"⟩ : Cond) ∈ aw := aw_2 (i := 69) rfl rfl
theorem m_2_70 : (.code ⟨"java/lang/StringUTF16", "charAt", "([BI)C"⟩ prog_13_method_83_code 2 (some .char) : Cond) ∈ aw := aw_2 (i := 70) rfl rfl
theorem m_2_71 : (.methodLink "java/lang/StringUTF16" 67 ⟨"java/lang/StringUTF16", "checkIndex", "(I[B)V"⟩ : Cond) ∈ aw := aw_2 (i := 71) rfl rfl
theorem m_2_72 : (.static ⟨"java/lang/StringUTF16", "checkIndex", "(I[B)V"⟩ : Cond) ∈ aw := aw_2 (i := 72) rfl rfl
theorem m_2_73 : (.code ⟨"java/lang/StringUTF16", "checkIndex", "(I[B)V"⟩ prog_13_method_91_code 2 none : Cond) ∈ aw := aw_2 (i := 73) rfl rfl
theorem m_2_74 : (.methodLink "java/lang/StringUTF16" 48 ⟨"java/lang/StringUTF16", "length", "([B)I"⟩ : Cond) ∈ aw := aw_2 (i := 74) rfl rfl
theorem m_2_75 : (.static ⟨"java/lang/StringUTF16", "length", "([B)I"⟩ : Cond) ∈ aw := aw_2 (i := 75) rfl rfl
theorem m_2_76 : (.code ⟨"java/lang/StringUTF16", "length", "([B)I"⟩ prog_13_method_6_code 1 (some .int) : Cond) ∈ aw := aw_2 (i := 76) rfl rfl
theorem m_2_77 : (.methodLink "java/lang/StringUTF16" 414 ⟨"java/lang/String", "checkIndex", "(II)V"⟩ : Cond) ∈ aw := aw_2 (i := 77) rfl rfl
theorem m_2_78 : (.methodLink "java/lang/StringUTF16" 71 ⟨"java/lang/StringUTF16", "getChar", "([BI)C"⟩ : Cond) ∈ aw := aw_2 (i := 78) rfl rfl
theorem m_2_79 : (.static ⟨"java/lang/StringUTF16", "getChar", "([BI)C"⟩ : Cond) ∈ aw := aw_2 (i := 79) rfl rfl
theorem m_2_80 : (.code ⟨"java/lang/StringUTF16", "getChar", "([BI)C"⟩ prog_13_method_5_code 2 (some .char) : Cond) ∈ aw := aw_2 (i := 80) rfl rfl
theorem m_2_81 : (.fieldLink "java/lang/StringUTF16" 44 "java/lang/StringUTF16" "$assertionsDisabled" "Z" : Cond) ∈ aw := aw_2 (i := 81) rfl rfl
theorem m_2_83 : (.fieldLink "java/lang/StringUTF16" 59 "java/lang/StringUTF16" "HI_BYTE_SHIFT" "I" : Cond) ∈ aw := aw_2 (i := 83) rfl rfl
theorem m_2_85 : (.fieldLink "java/lang/StringUTF16" 63 "java/lang/StringUTF16" "LO_BYTE_SHIFT" "I" : Cond) ∈ aw := aw_2 (i := 85) rfl rfl
theorem m_2_87 : (.methodLink "HeadDesk$Reader" 69 ⟨"HeadDesk$Reader", "stop", "(I)Z"⟩ : Cond) ∈ aw := aw_2 (i := 87) rfl rfl
theorem m_2_89 : (.instanceMethod ⟨"HeadDesk$Reader", "stop", "(I)Z"⟩ : Cond) ∈ aw := aw_2 (i := 89) rfl rfl
theorem m_2_90 : (.code ⟨"HeadDesk$Reader", "stop", "(I)Z"⟩ prog_3_method_20_code 2 (some .boolean) : Cond) ∈ aw := aw_2 (i := 90) rfl rfl
theorem m_2_93 : (.methodLink "HeadDesk$Reader" 79 ⟨"HeadDesk$Reader", "take", "(C)Z"⟩ : Cond) ∈ aw := aw_2 (i := 93) rfl rfl
theorem m_2_95 : (.instanceMethod ⟨"HeadDesk$Reader", "take", "(C)Z"⟩ : Cond) ∈ aw := aw_2 (i := 95) rfl rfl
theorem m_2_96 : (.code ⟨"HeadDesk$Reader", "take", "(C)Z"⟩ prog_3_method_22_code 2 (some .boolean) : Cond) ∈ aw := aw_2 (i := 96) rfl rfl
theorem m_2_97 : (.methodLink "HeadDesk$Reader" 85 ⟨"HeadDesk$Reader", "readTarget", "()Z"⟩ : Cond) ∈ aw := aw_2 (i := 97) rfl rfl
theorem m_2_99 : (.instanceMethod ⟨"HeadDesk$Reader", "readTarget", "()Z"⟩ : Cond) ∈ aw := aw_2 (i := 99) rfl rfl
theorem m_2_100 : (.code ⟨"HeadDesk$Reader", "readTarget", "()Z"⟩ prog_3_method_7_code 1 (some .boolean) : Cond) ∈ aw := aw_2 (i := 100) rfl rfl
theorem m_2_101 : (.methodLink "HeadDesk$Reader" 102 ⟨"HeadDesk$Reader", "takeNumber", "(I)Z"⟩ : Cond) ∈ aw := aw_2 (i := 101) rfl rfl
theorem m_2_103 : (.instanceMethod ⟨"HeadDesk$Reader", "takeNumber", "(I)Z"⟩ : Cond) ∈ aw := aw_2 (i := 103) rfl rfl
theorem m_2_104 : (.code ⟨"HeadDesk$Reader", "takeNumber", "(I)Z"⟩ prog_3_method_24_code 4 (some .boolean) : Cond) ∈ aw := aw_2 (i := 104) rfl rfl
theorem m_2_105 : (.methodLink "HeadDesk$Reader" 153 ⟨"HeadDesk$Reader", "isDigit", "(I)Z"⟩ : Cond) ∈ aw := aw_2 (i := 105) rfl rfl
theorem m_2_106 : (.static ⟨"HeadDesk$Reader", "isDigit", "(I)Z"⟩ : Cond) ∈ aw := aw_2 (i := 106) rfl rfl
theorem m_2_107 : (.code ⟨"HeadDesk$Reader", "isDigit", "(I)Z"⟩ prog_3_method_28_code 1 (some .boolean) : Cond) ∈ aw := aw_2 (i := 107) rfl rfl
theorem m_2_108 : (.methodLink "HeadDesk$Reader" 61 ⟨"HeadDesk$Reader", "skip", "(C)Z"⟩ : Cond) ∈ aw := aw_2 (i := 108) rfl rfl
theorem m_2_110 : (.instanceMethod ⟨"HeadDesk$Reader", "skip", "(C)Z"⟩ : Cond) ∈ aw := aw_2 (i := 110) rfl rfl
theorem m_2_111 : (.code ⟨"HeadDesk$Reader", "skip", "(C)Z"⟩ prog_3_method_21_code 2 (some .boolean) : Cond) ∈ aw := aw_2 (i := 111) rfl rfl
theorem m_2_112 : (.methodLink "HeadDesk$Reader" 73 ⟨"HeadDesk$Reader", "readName", "()Z"⟩ : Cond) ∈ aw := aw_2 (i := 112) rfl rfl
theorem m_2_114 : (.instanceMethod ⟨"HeadDesk$Reader", "readName", "()Z"⟩ : Cond) ∈ aw := aw_2 (i := 114) rfl rfl
theorem m_2_115 : (.code ⟨"HeadDesk$Reader", "readName", "()Z"⟩ prog_3_method_8_code 1 (some .boolean) : Cond) ∈ aw := aw_2 (i := 115) rfl rfl
theorem m_2_116 : (.methodLink "HeadDesk$Reader" 105 ⟨"HeadDesk$Reader", "takeLetters", "(I)Z"⟩ : Cond) ∈ aw := aw_2 (i := 116) rfl rfl
theorem m_2_118 : (.instanceMethod ⟨"HeadDesk$Reader", "takeLetters", "(I)Z"⟩ : Cond) ∈ aw := aw_2 (i := 118) rfl rfl
theorem m_2_119 : (.code ⟨"HeadDesk$Reader", "takeLetters", "(I)Z"⟩ prog_3_method_25_code 3 (some .boolean) : Cond) ∈ aw := aw_2 (i := 119) rfl rfl
theorem m_2_120 : (.methodLink "HeadDesk$Reader" 197 ⟨"HeadDesk$Reader", "isLetter", "(I)Z"⟩ : Cond) ∈ aw := aw_2 (i := 120) rfl rfl
theorem m_2_121 : (.static ⟨"HeadDesk$Reader", "isLetter", "(I)Z"⟩ : Cond) ∈ aw := aw_2 (i := 121) rfl rfl
theorem m_2_122 : (.code ⟨"HeadDesk$Reader", "isLetter", "(I)Z"⟩ prog_3_method_29_code 1 (some .boolean) : Cond) ∈ aw := aw_2 (i := 122) rfl rfl
theorem m_2_123 : (.methodLink "HeadDesk$Reader" 108 ⟨"HeadDesk$Reader", "wasThere", "()Z"⟩ : Cond) ∈ aw := aw_2 (i := 123) rfl rfl
theorem m_2_125 : (.instanceMethod ⟨"HeadDesk$Reader", "wasThere", "()Z"⟩ : Cond) ∈ aw := aw_2 (i := 125) rfl rfl
theorem m_2_126 : (.code ⟨"HeadDesk$Reader", "wasThere", "()Z"⟩ prog_3_method_9_code 2 (some .boolean) : Cond) ∈ aw := aw_2 (i := 126) rfl rfl
theorem m_2_127 : (.methodLink "HeadDesk$Reader" 111 ⟨"HeadDesk$Reader", "isWordFrom", "(II)Z"⟩ : Cond) ∈ aw := aw_2 (i := 127) rfl rfl
theorem m_2_129 : (.instanceMethod ⟨"HeadDesk$Reader", "isWordFrom", "(II)Z"⟩ : Cond) ∈ aw := aw_2 (i := 129) rfl rfl
theorem m_2_130 : (.code ⟨"HeadDesk$Reader", "isWordFrom", "(II)Z"⟩ prog_3_method_27_code 4 (some .boolean) : Cond) ∈ aw := aw_2 (i := 130) rfl rfl
theorem m_2_131 : (.methodLink "HeadDesk$Reader" 76 ⟨"HeadDesk$Reader", "readValue", "()Z"⟩ : Cond) ∈ aw := aw_2 (i := 131) rfl rfl
theorem m_2_133 : (.instanceMethod ⟨"HeadDesk$Reader", "readValue", "()Z"⟩ : Cond) ∈ aw := aw_2 (i := 133) rfl rfl
theorem m_2_134 : (.code ⟨"HeadDesk$Reader", "readValue", "()Z"⟩ prog_3_method_10_code 1 (some .boolean) : Cond) ∈ aw := aw_2 (i := 134) rfl rfl
theorem m_2_136 : (.methodLink "HeadDesk$Reader" 117 ⟨"HeadDesk$Reader", "isWord", "(Ljava/lang/String;)Z"⟩ : Cond) ∈ aw := aw_2 (i := 136) rfl rfl
theorem m_2_138 : (.instanceMethod ⟨"HeadDesk$Reader", "isWord", "(Ljava/lang/String;)Z"⟩ : Cond) ∈ aw := aw_2 (i := 138) rfl rfl
theorem m_2_139 : (.code ⟨"HeadDesk$Reader", "isWord", "(Ljava/lang/String;)Z"⟩ prog_3_method_26_code 3 (some .boolean) : Cond) ∈ aw := aw_2 (i := 139) rfl rfl
theorem m_2_140 : (.methodLink "HeadDesk$Reader" 120 ⟨"HeadDesk$Reader", "readList", "()Z"⟩ : Cond) ∈ aw := aw_2 (i := 140) rfl rfl
theorem m_2_142 : (.instanceMethod ⟨"HeadDesk$Reader", "readList", "()Z"⟩ : Cond) ∈ aw := aw_2 (i := 142) rfl rfl
theorem m_2_143 : (.code ⟨"HeadDesk$Reader", "readList", "()Z"⟩ prog_3_method_16_code 2 (some .boolean) : Cond) ∈ aw := aw_2 (i := 143) rfl rfl
theorem m_2_144 : (.methodLink "HeadDesk$Reader" 163 ⟨"HeadDesk$Reader", "countBare", "()V"⟩ : Cond) ∈ aw := aw_2 (i := 144) rfl rfl
theorem m_2_146 : (.instanceMethod ⟨"HeadDesk$Reader", "countBare", "()V"⟩ : Cond) ∈ aw := aw_2 (i := 146) rfl rfl
theorem m_2_147 : (.code ⟨"HeadDesk$Reader", "countBare", "()V"⟩ prog_3_method_17_code 1 none : Cond) ∈ aw := aw_2 (i := 147) rfl rfl
theorem m_2_152 : (.constant "HeadDesk$Reader" 148 99999 : Cond) ∈ aw := aw_2 (i := 152) rfl rfl
theorem m_2_153 : (.methodLink "HeadDesk$Reader" 166 ⟨"HeadDesk$Reader", "countWithNumber", "()V"⟩ : Cond) ∈ aw := aw_2 (i := 153) rfl rfl
theorem m_2_155 : (.instanceMethod ⟨"HeadDesk$Reader", "countWithNumber", "()V"⟩ : Cond) ∈ aw := aw_2 (i := 155) rfl rfl
theorem m_2_156 : (.code ⟨"HeadDesk$Reader", "countWithNumber", "()V"⟩ prog_3_method_18_code 1 none : Cond) ∈ aw := aw_2 (i := 156) rfl rfl
theorem m_2_162 : (.methodLink "HeadDesk$Reader" 125 ⟨"HeadDesk$Reader", "readRange", "()Z"⟩ : Cond) ∈ aw := aw_2 (i := 162) rfl rfl
theorem m_2_164 : (.instanceMethod ⟨"HeadDesk$Reader", "readRange", "()Z"⟩ : Cond) ∈ aw := aw_2 (i := 164) rfl rfl
theorem m_2_165 : (.code ⟨"HeadDesk$Reader", "readRange", "()Z"⟩ prog_3_method_12_code 3 (some .boolean) : Cond) ∈ aw := aw_2 (i := 165) rfl rfl
theorem m_2_167 : (.methodLink "HeadDesk$Reader" 149 ⟨"HeadDesk$Head", "setRange", "(III)V"⟩ : Cond) ∈ aw := aw_2 (i := 167) rfl rfl
theorem m_2_168 : (.instanceMethod ⟨"HeadDesk$Head", "setRange", "(III)V"⟩ : Cond) ∈ aw := aw_2 (i := 168) rfl rfl
theorem m_2_169 : (.selects "HeadDesk$Head" ⟨"HeadDesk$Head", "setRange", "(III)V"⟩ ⟨"HeadDesk$Head", "setRange", "(III)V"⟩ : Cond) ∈ aw := aw_2 (i := 169) rfl rfl
theorem m_2_170 : (.code ⟨"HeadDesk$Head", "setRange", "(III)V"⟩ prog_2_method_5_code 4 none : Cond) ∈ aw := aw_2 (i := 170) rfl rfl
theorem m_2_172 : (.methodLink "HeadDesk$Reader" 130 ⟨"HeadDesk$Reader", "readVersions", "()Z"⟩ : Cond) ∈ aw := aw_2 (i := 172) rfl rfl
theorem m_2_174 : (.instanceMethod ⟨"HeadDesk$Reader", "readVersions", "()Z"⟩ : Cond) ∈ aw := aw_2 (i := 174) rfl rfl
theorem m_2_175 : (.code ⟨"HeadDesk$Reader", "readVersions", "()Z"⟩ prog_3_method_13_code 2 (some .boolean) : Cond) ∈ aw := aw_2 (i := 175) rfl rfl
theorem m_2_176 : (.methodLink "HeadDesk$Reader" 156 ⟨"HeadDesk$Head", "addVersion", "(I)V"⟩ : Cond) ∈ aw := aw_2 (i := 176) rfl rfl
theorem m_2_177 : (.instanceMethod ⟨"HeadDesk$Head", "addVersion", "(I)V"⟩ : Cond) ∈ aw := aw_2 (i := 177) rfl rfl
theorem m_2_178 : (.selects "HeadDesk$Head" ⟨"HeadDesk$Head", "addVersion", "(I)V"⟩ ⟨"HeadDesk$Head", "addVersion", "(I)V"⟩ : Cond) ∈ aw := aw_2 (i := 178) rfl rfl
theorem m_2_179 : (.code ⟨"HeadDesk$Head", "addVersion", "(I)V"⟩ prog_2_method_7_code 3 none : Cond) ∈ aw := aw_2 (i := 179) rfl rfl
theorem m_2_181 : (.methodLink "HeadDesk$Reader" 135 ⟨"HeadDesk$Reader", "readLength", "()Z"⟩ : Cond) ∈ aw := aw_2 (i := 181) rfl rfl
theorem m_2_183 : (.instanceMethod ⟨"HeadDesk$Reader", "readLength", "()Z"⟩ : Cond) ∈ aw := aw_2 (i := 183) rfl rfl
theorem m_2_184 : (.code ⟨"HeadDesk$Reader", "readLength", "()Z"⟩ prog_3_method_14_code 1 (some .boolean) : Cond) ∈ aw := aw_2 (i := 184) rfl rfl
theorem m_2_186 : (.methodLink "HeadDesk$Reader" 140 ⟨"HeadDesk$Reader", "readKeys", "()Z"⟩ : Cond) ∈ aw := aw_2 (i := 186) rfl rfl
theorem m_2_188 : (.instanceMethod ⟨"HeadDesk$Reader", "readKeys", "()Z"⟩ : Cond) ∈ aw := aw_2 (i := 188) rfl rfl
theorem m_2_189 : (.code ⟨"HeadDesk$Reader", "readKeys", "()Z"⟩ prog_3_method_15_code 3 (some .boolean) : Cond) ∈ aw := aw_2 (i := 189) rfl rfl
theorem m_2_190 : (.methodLink "HeadDesk$Reader" 160 ⟨"HeadDesk$Head", "addKey", "(I)V"⟩ : Cond) ∈ aw := aw_2 (i := 190) rfl rfl
theorem m_2_191 : (.instanceMethod ⟨"HeadDesk$Head", "addKey", "(I)V"⟩ : Cond) ∈ aw := aw_2 (i := 191) rfl rfl
theorem m_2_192 : (.selects "HeadDesk$Head" ⟨"HeadDesk$Head", "addKey", "(I)V"⟩ ⟨"HeadDesk$Head", "addKey", "(I)V"⟩ : Cond) ∈ aw := aw_2 (i := 192) rfl rfl
theorem m_2_193 : (.code ⟨"HeadDesk$Head", "addKey", "(I)V"⟩ prog_2_method_6_code 2 none : Cond) ∈ aw := aw_2 (i := 193) rfl rfl
theorem m_2_194 : (.methodLink "HeadDesk$Reader" 143 ⟨"HeadDesk$Reader", "readAnything", "()Z"⟩ : Cond) ∈ aw := aw_2 (i := 194) rfl rfl
theorem m_2_196 : (.instanceMethod ⟨"HeadDesk$Reader", "readAnything", "()Z"⟩ : Cond) ∈ aw := aw_2 (i := 196) rfl rfl
theorem m_2_197 : (.code ⟨"HeadDesk$Reader", "readAnything", "()Z"⟩ prog_3_method_11_code 2 (some .boolean) : Cond) ∈ aw := aw_2 (i := 197) rfl rfl
theorem m_2_198 : (.methodLink "HeadDesk" 52 ⟨"HeadDesk$Tape", "empty", "()V"⟩ : Cond) ∈ aw := aw_2 (i := 198) rfl rfl
theorem m_2_199 : (.instanceMethod ⟨"HeadDesk$Tape", "empty", "()V"⟩ : Cond) ∈ aw := aw_2 (i := 199) rfl rfl
theorem m_2_200 : (.selects "HeadDesk$Tape" ⟨"HeadDesk$Tape", "empty", "()V"⟩ ⟨"HeadDesk$Tape", "empty", "()V"⟩ : Cond) ∈ aw := aw_2 (i := 200) rfl rfl
theorem m_2_201 : (.code ⟨"HeadDesk$Tape", "empty", "()V"⟩ prog_4_method_3_code 1 none : Cond) ∈ aw := aw_2 (i := 201) rfl rfl
theorem m_2_202 : (.methodLink "HeadDesk" 55 ⟨"HeadDesk$Reader", "stuckAt", "()I"⟩ : Cond) ∈ aw := aw_2 (i := 202) rfl rfl
theorem m_2_203 : (.instanceMethod ⟨"HeadDesk$Reader", "stuckAt", "()I"⟩ : Cond) ∈ aw := aw_2 (i := 203) rfl rfl
theorem m_2_204 : (.selects "HeadDesk$Reader" ⟨"HeadDesk$Reader", "stuckAt", "()I"⟩ ⟨"HeadDesk$Reader", "stuckAt", "()I"⟩ : Cond) ∈ aw := aw_2 (i := 204) rfl rfl
theorem m_2_205 : (.code ⟨"HeadDesk$Reader", "stuckAt", "()I"⟩ prog_3_method_2_code 1 (some .int) : Cond) ∈ aw := aw_2 (i := 205) rfl rfl
theorem m_2_207 : (.methodLink "HeadDesk" 61 ⟨"HeadDesk$Reader", "trade", "(LHeadDesk$Head;)LHeadDesk$Head;"⟩ : Cond) ∈ aw := aw_2 (i := 207) rfl rfl
theorem m_2_208 : (.instanceMethod ⟨"HeadDesk$Reader", "trade", "(LHeadDesk$Head;)LHeadDesk$Head;"⟩ : Cond) ∈ aw := aw_2 (i := 208) rfl rfl
theorem m_2_209 : (.selects "HeadDesk$Reader" ⟨"HeadDesk$Reader", "trade", "(LHeadDesk$Head;)LHeadDesk$Head;"⟩ ⟨"HeadDesk$Reader", "trade", "(LHeadDesk$Head;)LHeadDesk$Head;"⟩ : Cond) ∈ aw := aw_2 (i := 209) rfl rfl
theorem m_2_210 : (.code ⟨"HeadDesk$Reader", "trade", "(LHeadDesk$Head;)LHeadDesk$Head;"⟩ prog_3_method_3_code 3 (some (.object "HeadDesk$Head")) : Cond) ∈ aw := aw_2 (i := 210) rfl rfl
theorem m_2_211 : (.classLink "HeadDeskLaw" 16 "HeadDeskModel" : Cond) ∈ aw := aw_2 (i := 211) rfl rfl
theorem m_2_212 : (.instantiable "HeadDeskModel" 38 : Cond) ∈ aw := aw_2 (i := 212) rfl rfl
theorem m_2_213 : (.methodLink "HeadDeskLaw" 18 ⟨"HeadDeskModel", "<init>", "()V"⟩ : Cond) ∈ aw := aw_2 (i := 213) rfl rfl
theorem m_2_214 : (.instanceMethod ⟨"HeadDeskModel", "<init>", "()V"⟩ : Cond) ∈ aw := aw_2 (i := 214) rfl rfl
theorem m_2_215 : (.code ⟨"HeadDeskModel", "<init>", "()V"⟩ prog_6_method_1_code 1 none : Cond) ∈ aw := aw_2 (i := 215) rfl rfl
theorem m_2_216 : (.methodLink "HeadDeskModel" 1 ⟨"java/lang/Object", "<init>", "()V"⟩ : Cond) ∈ aw := aw_2 (i := 216) rfl rfl
theorem m_2_217 : (.fieldLink "HeadDeskModel" 32 "HeadDeskModel" "thrown" "I" : Cond) ∈ aw := aw_2 (i := 217) rfl rfl
theorem m_2_218 : (.fieldLink "HeadDeskModel" 7 "HeadDeskModel" "tape" "[I" : Cond) ∈ aw := aw_2 (i := 218) rfl rfl
theorem m_2_219 : (.fieldLink "HeadDeskModel" 35 "HeadDeskModel" "taped" "I" : Cond) ∈ aw := aw_2 (i := 219) rfl rfl
theorem m_2_220 : (.fieldLink "HeadDeskModel" 13 "HeadDeskModel" "fault" "I" : Cond) ∈ aw := aw_2 (i := 220) rfl rfl
theorem m_2_221 : (.fieldLink "HeadDeskModel" 40 "HeadDeskModel" "at" "I" : Cond) ∈ aw := aw_2 (i := 221) rfl rfl
theorem m_2_222 : (.fieldLink "HeadDeskModel" 43 "HeadDeskModel" "bad" "Z" : Cond) ∈ aw := aw_2 (i := 222) rfl rfl
theorem m_2_223 : (.fieldLink "HeadDeskModel" 47 "HeadDeskModel" "badPlace" "I" : Cond) ∈ aw := aw_2 (i := 223) rfl rfl
theorem m_2_224 : (.fieldLink "HeadDeskModel" 77 "HeadDeskModel" "path" "I" : Cond) ∈ aw := aw_2 (i := 224) rfl rfl
theorem m_2_225 : (.fieldLink "HeadDeskModel" 80 "HeadDeskModel" "variant" "I" : Cond) ∈ aw := aw_2 (i := 225) rfl rfl
theorem m_2_226 : (.fieldLink "HeadDeskModel" 99 "HeadDeskModel" "rangeKind" "I" : Cond) ∈ aw := aw_2 (i := 226) rfl rfl
theorem m_2_227 : (.fieldLink "HeadDeskModel" 103 "HeadDeskModel" "rangeA" "I" : Cond) ∈ aw := aw_2 (i := 227) rfl rfl
theorem m_2_228 : (.fieldLink "HeadDeskModel" 106 "HeadDeskModel" "rangeB" "I" : Cond) ∈ aw := aw_2 (i := 228) rfl rfl
theorem m_2_229 : (.fieldLink "HeadDeskModel" 112 "HeadDeskModel" "matches" "I" : Cond) ∈ aw := aw_2 (i := 229) rfl rfl
theorem m_2_230 : (.fieldLink "HeadDeskModel" 145 "HeadDeskModel" "maxAge" "I" : Cond) ∈ aw := aw_2 (i := 230) rfl rfl
theorem m_2_231 : (.fieldLink "HeadDeskModel" 150 "HeadDeskModel" "maxStale" "I" : Cond) ∈ aw := aw_2 (i := 231) rfl rfl
theorem m_2_232 : (.fieldLink "HeadDeskModel" 155 "HeadDeskModel" "minFresh" "I" : Cond) ∈ aw := aw_2 (i := 232) rfl rfl
theorem m_2_233 : (.fieldLink "HeadDeskModel" 182 "HeadDeskModel" "isHead" "Z" : Cond) ∈ aw := aw_2 (i := 233) rfl rfl
theorem m_2_234 : (.fieldLink "HeadDeskModel" 109 "HeadDeskModel" "star" "Z" : Cond) ∈ aw := aw_2 (i := 234) rfl rfl
theorem m_2_235 : (.fieldLink "HeadDeskModel" 135 "HeadDeskModel" "noCache" "Z" : Cond) ∈ aw := aw_2 (i := 235) rfl rfl
theorem m_2_236 : (.fieldLink "HeadDeskModel" 140 "HeadDeskModel" "onlyIfCached" "Z" : Cond) ∈ aw := aw_2 (i := 236) rfl rfl
theorem m_2_237 : (.fieldLink "HeadDeskModel" 17 "HeadDeskModel" "match" "[I" : Cond) ∈ aw := aw_2 (i := 237) rfl rfl
theorem m_2_238 : (.fieldLink "HeadDeskModel" 185 "HeadDeskModel" "length" "I" : Cond) ∈ aw := aw_2 (i := 238) rfl rfl
theorem m_2_239 : (.fieldLink "HeadDeskModel" 179 "HeadDeskModel" "keyMask" "I" : Cond) ∈ aw := aw_2 (i := 239) rfl rfl
theorem m_3_0 : (.fieldLink "HeadDeskModel" 166 "HeadDeskModel" "live" "I" : Cond) ∈ aw := aw_3 (i := 0) rfl rfl
theorem m_3_1 : (.fieldLink "HeadDeskModel" 171 "HeadDeskModel" "ifError" "I" : Cond) ∈ aw := aw_3 (i := 1) rfl rfl
theorem m_3_2 : (.fieldLink "HeadDeskModel" 176 "HeadDeskModel" "ifLate" "I" : Cond) ∈ aw := aw_3 (i := 2) rfl rfl
theorem m_3_3 : (.fieldLink "HeadDeskModel" 160 "HeadDeskModel" "noStore" "Z" : Cond) ∈ aw := aw_3 (i := 3) rfl rfl
theorem m_3_4 : (.fieldLink "HeadDeskModel" 163 "HeadDeskModel" "thingNoCache" "Z" : Cond) ∈ aw := aw_3 (i := 4) rfl rfl
theorem m_3_5 : (.fieldLink "HeadDeskModel" 86 "HeadDeskModel" "names" "I" : Cond) ∈ aw := aw_3 (i := 5) rfl rfl
theorem m_3_6 : (.fieldLink "HeadDeskModel" 20 "HeadDeskModel" "nameFrom" "[I" : Cond) ∈ aw := aw_3 (i := 6) rfl rfl
theorem m_3_7 : (.fieldLink "HeadDeskModel" 23 "HeadDeskModel" "nameTo" "[I" : Cond) ∈ aw := aw_3 (i := 7) rfl rfl
theorem m_3_8 : (.fieldLink "HeadDeskModel" 26 "HeadDeskModel" "kept" "[I" : Cond) ∈ aw := aw_3 (i := 8) rfl rfl
theorem m_3_9 : (.fieldLink "HeadDeskModel" 29 "HeadDeskModel" "keptMatch" "[I" : Cond) ∈ aw := aw_3 (i := 9) rfl rfl
theorem m_3_10 : (.fieldLink "HeadDeskModel" 230 "HeadDeskModel" "keptMatches" "I" : Cond) ∈ aw := aw_3 (i := 10) rfl rfl
theorem m_3_11 : (.fieldLink "HeadDeskModel" 240 "HeadDeskModel" "good" "I" : Cond) ∈ aw := aw_3 (i := 11) rfl rfl
theorem m_3_12 : (.fieldLink "HeadDeskModel" 115 "HeadDeskModel" "wordFrom" "I" : Cond) ∈ aw := aw_3 (i := 12) rfl rfl
theorem m_3_13 : (.fieldLink "HeadDeskModel" 118 "HeadDeskModel" "wordTo" "I" : Cond) ∈ aw := aw_3 (i := 13) rfl rfl
theorem m_3_14 : (.fieldLink "HeadDeskModel" 121 "HeadDeskModel" "wordNumber" "I" : Cond) ∈ aw := aw_3 (i := 14) rfl rfl
theorem m_3_92 : (.methodLink "HeadDeskLaw" 32 ⟨"HeadDeskModel", "thrown", "()I"⟩ : Cond) ∈ aw := aw_3 (i := 92) rfl rfl
theorem m_3_93 : (.instanceMethod ⟨"HeadDeskModel", "thrown", "()I"⟩ : Cond) ∈ aw := aw_3 (i := 93) rfl rfl
theorem m_3_94 : (.selects "HeadDeskModel" ⟨"HeadDeskModel", "thrown", "()I"⟩ ⟨"HeadDeskModel", "thrown", "()I"⟩ : Cond) ∈ aw := aw_3 (i := 94) rfl rfl
theorem m_3_95 : (.code ⟨"HeadDeskModel", "thrown", "()I"⟩ prog_6_method_2_code 1 (some .int) : Cond) ∈ aw := aw_3 (i := 95) rfl rfl
theorem m_3_96 : (.methodLink "HeadDeskLaw" 25 ⟨"HeadDeskModel", "type", "(JI)Z"⟩ : Cond) ∈ aw := aw_3 (i := 96) rfl rfl
theorem m_3_97 : (.instanceMethod ⟨"HeadDeskModel", "type", "(JI)Z"⟩ : Cond) ∈ aw := aw_3 (i := 97) rfl rfl
theorem m_3_98 : (.selects "HeadDeskModel" ⟨"HeadDeskModel", "type", "(JI)Z"⟩ ⟨"HeadDeskModel", "type", "(JI)Z"⟩ : Cond) ∈ aw := aw_3 (i := 98) rfl rfl
theorem m_3_99 : (.code ⟨"HeadDeskModel", "type", "(JI)Z"⟩ prog_6_method_3_code 6 (some .boolean) : Cond) ∈ aw := aw_3 (i := 99) rfl rfl
theorem m_3_100 : (.constantLong "HeadDeskModel" 38 255 : Cond) ∈ aw := aw_3 (i := 100) rfl rfl
theorem m_3_101 : (.methodLink "HeadDeskLaw" 31 ⟨"HeadDeskModel", "read", "(I)I"⟩ : Cond) ∈ aw := aw_3 (i := 101) rfl rfl
theorem m_3_102 : (.instanceMethod ⟨"HeadDeskModel", "read", "(I)I"⟩ : Cond) ∈ aw := aw_3 (i := 102) rfl rfl
theorem m_3_103 : (.selects "HeadDeskModel" ⟨"HeadDeskModel", "read", "(I)I"⟩ ⟨"HeadDeskModel", "read", "(I)I"⟩ : Cond) ∈ aw := aw_3 (i := 103) rfl rfl
theorem m_3_104 : (.code ⟨"HeadDeskModel", "read", "(I)I"⟩ prog_6_method_26_code 2 (some .int) : Cond) ∈ aw := aw_3 (i := 104) rfl rfl
theorem m_3_105 : (.methodLink "HeadDeskModel" 233 ⟨"HeadDeskModel", "readText", "(Z)Z"⟩ : Cond) ∈ aw := aw_3 (i := 105) rfl rfl
theorem m_3_107 : (.instanceMethod ⟨"HeadDeskModel", "readText", "(Z)Z"⟩ : Cond) ∈ aw := aw_3 (i := 107) rfl rfl
theorem m_3_108 : (.code ⟨"HeadDeskModel", "readText", "(Z)Z"⟩ prog_6_method_23_code 2 (some .boolean) : Cond) ∈ aw := aw_3 (i := 108) rfl rfl
theorem m_3_109 : (.methodLink "HeadDeskModel" 50 ⟨"HeadDeskModel", "see", "()I"⟩ : Cond) ∈ aw := aw_3 (i := 109) rfl rfl
theorem m_3_111 : (.instanceMethod ⟨"HeadDeskModel", "see", "()I"⟩ : Cond) ∈ aw := aw_3 (i := 111) rfl rfl
theorem m_3_112 : (.code ⟨"HeadDeskModel", "see", "()I"⟩ prog_6_method_4_code 1 (some .int) : Cond) ∈ aw := aw_3 (i := 112) rfl rfl
theorem m_3_114 : (.methodLink "HeadDeskModel" 95 ⟨"HeadDeskModel", "expectWord", "(Ljava/lang/String;)Z"⟩ : Cond) ∈ aw := aw_3 (i := 114) rfl rfl
theorem m_3_116 : (.instanceMethod ⟨"HeadDeskModel", "expectWord", "(Ljava/lang/String;)Z"⟩ : Cond) ∈ aw := aw_3 (i := 116) rfl rfl
theorem m_3_117 : (.code ⟨"HeadDeskModel", "expectWord", "(Ljava/lang/String;)Z"⟩ prog_6_method_7_code 3 (some .boolean) : Cond) ∈ aw := aw_3 (i := 117) rfl rfl
theorem m_3_118 : (.methodLink "HeadDeskModel" 58 ⟨"java/lang/String", "length", "()I"⟩ : Cond) ∈ aw := aw_3 (i := 118) rfl rfl
theorem m_3_119 : (.methodLink "HeadDeskModel" 63 ⟨"java/lang/String", "charAt", "(I)C"⟩ : Cond) ∈ aw := aw_3 (i := 119) rfl rfl
theorem m_3_120 : (.methodLink "HeadDeskModel" 67 ⟨"HeadDeskModel", "expect", "(I)Z"⟩ : Cond) ∈ aw := aw_3 (i := 120) rfl rfl
theorem m_3_122 : (.instanceMethod ⟨"HeadDeskModel", "expect", "(I)Z"⟩ : Cond) ∈ aw := aw_3 (i := 122) rfl rfl
theorem m_3_123 : (.code ⟨"HeadDeskModel", "expect", "(I)Z"⟩ prog_6_method_6_code 2 (some .boolean) : Cond) ∈ aw := aw_3 (i := 123) rfl rfl
theorem m_3_124 : (.methodLink "HeadDeskModel" 54 ⟨"HeadDeskModel", "wrong", "(I)Z"⟩ : Cond) ∈ aw := aw_3 (i := 124) rfl rfl
theorem m_3_126 : (.instanceMethod ⟨"HeadDeskModel", "wrong", "(I)Z"⟩ : Cond) ∈ aw := aw_3 (i := 126) rfl rfl
theorem m_3_127 : (.code ⟨"HeadDeskModel", "wrong", "(I)Z"⟩ prog_6_method_5_code 2 (some .boolean) : Cond) ∈ aw := aw_3 (i := 127) rfl rfl
theorem m_3_130 : (.methodLink "HeadDeskModel" 193 ⟨"HeadDeskModel", "target", "(Z)V"⟩ : Cond) ∈ aw := aw_3 (i := 130) rfl rfl
theorem m_3_132 : (.instanceMethod ⟨"HeadDeskModel", "target", "(Z)V"⟩ : Cond) ∈ aw := aw_3 (i := 132) rfl rfl
theorem m_3_133 : (.code ⟨"HeadDeskModel", "target", "(Z)V"⟩ prog_6_method_11_code 2 none : Cond) ∈ aw := aw_3 (i := 133) rfl rfl
theorem m_3_134 : (.methodLink "HeadDeskModel" 73 ⟨"HeadDeskModel", "number", "(I)I"⟩ : Cond) ∈ aw := aw_3 (i := 134) rfl rfl
theorem m_3_136 : (.instanceMethod ⟨"HeadDeskModel", "number", "(I)I"⟩ : Cond) ∈ aw := aw_3 (i := 136) rfl rfl
theorem m_3_137 : (.code ⟨"HeadDeskModel", "number", "(I)I"⟩ prog_6_method_10_code 4 (some .int) : Cond) ∈ aw := aw_3 (i := 137) rfl rfl
theorem m_3_138 : (.methodLink "HeadDeskModel" 70 ⟨"HeadDeskModel", "isDigit", "(I)Z"⟩ : Cond) ∈ aw := aw_3 (i := 138) rfl rfl
theorem m_3_139 : (.static ⟨"HeadDeskModel", "isDigit", "(I)Z"⟩ : Cond) ∈ aw := aw_3 (i := 139) rfl rfl
theorem m_3_140 : (.code ⟨"HeadDeskModel", "isDigit", "(I)Z"⟩ prog_6_method_8_code 1 (some .boolean) : Cond) ∈ aw := aw_3 (i := 140) rfl rfl
theorem m_3_141 : (.methodLink "HeadDeskModel" 197 ⟨"HeadDeskModel", "line", "(Z)V"⟩ : Cond) ∈ aw := aw_3 (i := 141) rfl rfl
theorem m_3_143 : (.instanceMethod ⟨"HeadDeskModel", "line", "(Z)V"⟩ : Cond) ∈ aw := aw_3 (i := 143) rfl rfl
theorem m_3_144 : (.code ⟨"HeadDeskModel", "line", "(Z)V"⟩ prog_6_method_24_code 2 none : Cond) ∈ aw := aw_3 (i := 144) rfl rfl
theorem m_3_145 : (.methodLink "HeadDeskModel" 200 ⟨"HeadDeskModel", "name", "()Z"⟩ : Cond) ∈ aw := aw_3 (i := 145) rfl rfl
theorem m_3_147 : (.instanceMethod ⟨"HeadDeskModel", "name", "()Z"⟩ : Cond) ∈ aw := aw_3 (i := 147) rfl rfl
theorem m_3_148 : (.code ⟨"HeadDeskModel", "name", "()Z"⟩ prog_6_method_12_code 3 (some .boolean) : Cond) ∈ aw := aw_3 (i := 148) rfl rfl
theorem m_3_149 : (.methodLink "HeadDeskModel" 83 ⟨"HeadDeskModel", "isSmall", "(I)Z"⟩ : Cond) ∈ aw := aw_3 (i := 149) rfl rfl
theorem m_3_150 : (.static ⟨"HeadDeskModel", "isSmall", "(I)Z"⟩ : Cond) ∈ aw := aw_3 (i := 150) rfl rfl
theorem m_3_151 : (.code ⟨"HeadDeskModel", "isSmall", "(I)Z"⟩ prog_6_method_9_code 1 (some .boolean) : Cond) ∈ aw := aw_3 (i := 151) rfl rfl
theorem m_3_152 : (.methodLink "HeadDeskModel" 89 ⟨"HeadDeskModel", "isSame", "(IIII)Z"⟩ : Cond) ∈ aw := aw_3 (i := 152) rfl rfl
theorem m_3_154 : (.instanceMethod ⟨"HeadDeskModel", "isSame", "(IIII)Z"⟩ : Cond) ∈ aw := aw_3 (i := 154) rfl rfl
theorem m_3_155 : (.code ⟨"HeadDeskModel", "isSame", "(IIII)Z"⟩ prog_6_method_13_code 7 (some .boolean) : Cond) ∈ aw := aw_3 (i := 155) rfl rfl
theorem m_3_157 : (.methodLink "HeadDeskModel" 206 ⟨"HeadDeskModel", "isNamed", "(Ljava/lang/String;)Z"⟩ : Cond) ∈ aw := aw_3 (i := 157) rfl rfl
theorem m_3_159 : (.instanceMethod ⟨"HeadDeskModel", "isNamed", "(Ljava/lang/String;)Z"⟩ : Cond) ∈ aw := aw_3 (i := 159) rfl rfl
theorem m_3_160 : (.code ⟨"HeadDeskModel", "isNamed", "(Ljava/lang/String;)Z"⟩ prog_6_method_14_code 5 (some .boolean) : Cond) ∈ aw := aw_3 (i := 160) rfl rfl
theorem m_3_161 : (.methodLink "HeadDeskModel" 209 ⟨"HeadDeskModel", "range", "()V"⟩ : Cond) ∈ aw := aw_3 (i := 161) rfl rfl
theorem m_3_163 : (.instanceMethod ⟨"HeadDeskModel", "range", "()V"⟩ : Cond) ∈ aw := aw_3 (i := 163) rfl rfl
theorem m_3_164 : (.code ⟨"HeadDeskModel", "range", "()V"⟩ prog_6_method_16_code 1 none : Cond) ∈ aw := aw_3 (i := 164) rfl rfl
theorem m_3_166 : (.constant "HeadDeskModel" 102 99999 : Cond) ∈ aw := aw_3 (i := 166) rfl rfl
theorem m_3_168 : (.methodLink "HeadDeskModel" 213 ⟨"HeadDeskModel", "matching", "()V"⟩ : Cond) ∈ aw := aw_3 (i := 168) rfl rfl
theorem m_3_170 : (.instanceMethod ⟨"HeadDeskModel", "matching", "()V"⟩ : Cond) ∈ aw := aw_3 (i := 170) rfl rfl
theorem m_3_171 : (.code ⟨"HeadDeskModel", "matching", "()V"⟩ prog_6_method_17_code 3 none : Cond) ∈ aw := aw_3 (i := 171) rfl rfl
theorem m_3_173 : (.methodLink "HeadDeskModel" 218 ⟨"HeadDeskModel", "list", "(Z)V"⟩ : Cond) ∈ aw := aw_3 (i := 173) rfl rfl
theorem m_3_175 : (.instanceMethod ⟨"HeadDeskModel", "list", "(Z)V"⟩ : Cond) ∈ aw := aw_3 (i := 175) rfl rfl
theorem m_3_176 : (.code ⟨"HeadDeskModel", "list", "(Z)V"⟩ prog_6_method_18_code 3 none : Cond) ∈ aw := aw_3 (i := 176) rfl rfl
theorem m_3_177 : (.methodLink "HeadDeskModel" 124 ⟨"HeadDeskModel", "requestWord", "()V"⟩ : Cond) ∈ aw := aw_3 (i := 177) rfl rfl
theorem m_3_179 : (.instanceMethod ⟨"HeadDeskModel", "requestWord", "()V"⟩ : Cond) ∈ aw := aw_3 (i := 179) rfl rfl
theorem m_3_180 : (.code ⟨"HeadDeskModel", "requestWord", "()V"⟩ prog_6_method_20_code 2 none : Cond) ∈ aw := aw_3 (i := 180) rfl rfl
theorem m_3_182 : (.methodLink "HeadDeskModel" 132 ⟨"HeadDeskModel", "isWord", "(Ljava/lang/String;)Z"⟩ : Cond) ∈ aw := aw_3 (i := 182) rfl rfl
theorem m_3_184 : (.instanceMethod ⟨"HeadDeskModel", "isWord", "(Ljava/lang/String;)Z"⟩ : Cond) ∈ aw := aw_3 (i := 184) rfl rfl
theorem m_3_185 : (.code ⟨"HeadDeskModel", "isWord", "(Ljava/lang/String;)Z"⟩ prog_6_method_19_code 4 (some .boolean) : Cond) ∈ aw := aw_3 (i := 185) rfl rfl
theorem m_3_190 : (.methodLink "HeadDeskModel" 127 ⟨"HeadDeskModel", "thingWord", "()V"⟩ : Cond) ∈ aw := aw_3 (i := 190) rfl rfl
theorem m_3_192 : (.instanceMethod ⟨"HeadDeskModel", "thingWord", "()V"⟩ : Cond) ∈ aw := aw_3 (i := 192) rfl rfl
theorem m_3_193 : (.code ⟨"HeadDeskModel", "thingWord", "()V"⟩ prog_6_method_21_code 2 none : Cond) ∈ aw := aw_3 (i := 193) rfl rfl
theorem m_3_199 : (.methodLink "HeadDeskModel" 224 ⟨"HeadDeskModel", "keyLetters", "()V"⟩ : Cond) ∈ aw := aw_3 (i := 199) rfl rfl
theorem m_3_201 : (.instanceMethod ⟨"HeadDeskModel", "keyLetters", "()V"⟩ : Cond) ∈ aw := aw_3 (i := 201) rfl rfl
theorem m_3_202 : (.code ⟨"HeadDeskModel", "keyLetters", "()V"⟩ prog_6_method_22_code 3 none : Cond) ∈ aw := aw_3 (i := 202) rfl rfl
theorem m_3_203 : (.methodLink "HeadDeskModel" 227 ⟨"HeadDeskModel", "anyValue", "()V"⟩ : Cond) ∈ aw := aw_3 (i := 203) rfl rfl
theorem m_3_205 : (.instanceMethod ⟨"HeadDeskModel", "anyValue", "()V"⟩ : Cond) ∈ aw := aw_3 (i := 205) rfl rfl
theorem m_3_206 : (.code ⟨"HeadDeskModel", "anyValue", "()V"⟩ prog_6_method_15_code 1 none : Cond) ∈ aw := aw_3 (i := 206) rfl rfl
theorem m_3_207 : (.methodLink "HeadDeskModel" 237 ⟨"HeadDeskModel", "keep", "(Z)V"⟩ : Cond) ∈ aw := aw_3 (i := 207) rfl rfl
theorem m_3_209 : (.instanceMethod ⟨"HeadDeskModel", "keep", "(Z)V"⟩ : Cond) ∈ aw := aw_3 (i := 209) rfl rfl
theorem m_3_210 : (.code ⟨"HeadDeskModel", "keep", "(Z)V"⟩ prog_6_method_25_code 5 none : Cond) ∈ aw := aw_3 (i := 210) rfl rfl
theorem m_3_211 : (.methodLink "HeadDeskLaw" 39 ⟨"HeadDeskModel", "fault", "()I"⟩ : Cond) ∈ aw := aw_3 (i := 211) rfl rfl
theorem m_3_212 : (.instanceMethod ⟨"HeadDeskModel", "fault", "()I"⟩ : Cond) ∈ aw := aw_3 (i := 212) rfl rfl
theorem m_3_213 : (.selects "HeadDeskModel" ⟨"HeadDeskModel", "fault", "()I"⟩ ⟨"HeadDeskModel", "fault", "()I"⟩ : Cond) ∈ aw := aw_3 (i := 213) rfl rfl
theorem m_3_214 : (.code ⟨"HeadDeskModel", "fault", "()I"⟩ prog_6_method_27_code 1 (some .int) : Cond) ∈ aw := aw_3 (i := 214) rfl rfl
theorem m_3_215 : (.methodLink "HeadDeskLaw" 43 ⟨"HeadDeskModel", "told", "(I)I"⟩ : Cond) ∈ aw := aw_3 (i := 215) rfl rfl
theorem m_3_216 : (.instanceMethod ⟨"HeadDeskModel", "told", "(I)I"⟩ : Cond) ∈ aw := aw_3 (i := 216) rfl rfl
theorem m_3_217 : (.selects "HeadDeskModel" ⟨"HeadDeskModel", "told", "(I)I"⟩ ⟨"HeadDeskModel", "told", "(I)I"⟩ : Cond) ∈ aw := aw_3 (i := 217) rfl rfl
theorem m_3_218 : (.code ⟨"HeadDeskModel", "told", "(I)I"⟩ prog_6_method_28_code 2 (some .int) : Cond) ∈ aw := aw_3 (i := 218) rfl rfl
theorem m_3_219 : (.methodLink "HeadDeskLaw" 48 ⟨"HeadDeskModel", "matches", "(I)Z"⟩ : Cond) ∈ aw := aw_3 (i := 219) rfl rfl
theorem m_3_220 : (.instanceMethod ⟨"HeadDeskModel", "matches", "(I)Z"⟩ : Cond) ∈ aw := aw_3 (i := 220) rfl rfl
theorem m_3_221 : (.selects "HeadDeskModel" ⟨"HeadDeskModel", "matches", "(I)Z"⟩ ⟨"HeadDeskModel", "matches", "(I)Z"⟩ : Cond) ∈ aw := aw_3 (i := 221) rfl rfl
theorem m_3_222 : (.code ⟨"HeadDeskModel", "matches", "(I)Z"⟩ prog_6_method_29_code 4 (some .boolean) : Cond) ∈ aw := aw_3 (i := 222) rfl rfl
theorem m_3_223 : (.methodLink "HeadDeskLaw" 53 ⟨"HeadDeskModel", "bytes", "(II)I"⟩ : Cond) ∈ aw := aw_3 (i := 223) rfl rfl
theorem m_3_224 : (.instanceMethod ⟨"HeadDeskModel", "bytes", "(II)I"⟩ : Cond) ∈ aw := aw_3 (i := 224) rfl rfl
theorem m_3_225 : (.selects "HeadDeskModel" ⟨"HeadDeskModel", "bytes", "(II)I"⟩ ⟨"HeadDeskModel", "bytes", "(II)I"⟩ : Cond) ∈ aw := aw_3 (i := 225) rfl rfl
theorem m_3_226 : (.code ⟨"HeadDeskModel", "bytes", "(II)I"⟩ prog_6_method_30_code 5 (some .int) : Cond) ∈ aw := aw_3 (i := 226) rfl rfl
theorem m_3_227 : (.constantLong "HeadDeskLaw" 19 4294967295 : Cond) ∈ aw := aw_3 (i := 227) rfl rfl
theorem m_3_228 : (.arrayClass .long : Cond) ∈ aw := aw_3 (i := 228) rfl rfl
theorem m_3_230 : (.fieldLink "java/lang/String" 9 "java/lang/String" "value" "[B" : Cond) ∈ aw := aw_3 (i := 230) rfl rfl
theorem m_3_231 : (.fieldLink "java/lang/String" 15 "java/lang/String" "coder" "B" : Cond) ∈ aw := aw_3 (i := 231) rfl rfl
theorem ms_0 : (.selects "HeadDesk$Head" ⟨"HeadDesk$Head", "hasVersion", "(I)Z"⟩ ⟨"HeadDesk$Head", "hasVersion", "(I)Z"⟩ : Cond) ∈ aw := aw_s (by decide +kernel)
theorem ms_1 : (.selects "java/lang/Throwable" ⟨"java/lang/Throwable", "fillInStackTrace", "(I)Ljava/lang/Throwable;"⟩ ⟨"java/lang/Throwable", "fillInStackTrace", "(I)Ljava/lang/Throwable;"⟩ : Cond) ∈ aw := aw_s (by decide +kernel)
theorem ms_2 : (.selects "HeadDesk$Reader" ⟨"HeadDesk$Reader", "readFirstLine", "()Z"⟩ ⟨"HeadDesk$Reader", "readFirstLine", "()Z"⟩ : Cond) ∈ aw := aw_s (by decide +kernel)
theorem ms_3 : (.selects "HeadDesk$Reader" ⟨"HeadDesk$Reader", "readVerb", "()Z"⟩ ⟨"HeadDesk$Reader", "readVerb", "()Z"⟩ : Cond) ∈ aw := aw_s (by decide +kernel)
theorem ms_4 : (.selects "HeadDesk$Reader" ⟨"HeadDesk$Reader", "takeAll", "(Ljava/lang/String;)Z"⟩ ⟨"HeadDesk$Reader", "takeAll", "(Ljava/lang/String;)Z"⟩ : Cond) ∈ aw := aw_s (by decide +kernel)
theorem ms_5 : (.selects "HeadDesk$Reader" ⟨"HeadDesk$Reader", "mark", "()I"⟩ ⟨"HeadDesk$Reader", "mark", "()I"⟩ : Cond) ∈ aw := aw_s (by decide +kernel)
theorem ms_6 : (.selects "HeadDesk$Reader" ⟨"HeadDesk$Reader", "stop", "(I)Z"⟩ ⟨"HeadDesk$Reader", "stop", "(I)Z"⟩ : Cond) ∈ aw := aw_s (by decide +kernel)
theorem ms_7 : (.selects "HeadDesk$Reader" ⟨"HeadDesk$Reader", "take", "(C)Z"⟩ ⟨"HeadDesk$Reader", "take", "(C)Z"⟩ : Cond) ∈ aw := aw_s (by decide +kernel)
theorem ms_8 : (.selects "HeadDesk$Reader" ⟨"HeadDesk$Reader", "readTarget", "()Z"⟩ ⟨"HeadDesk$Reader", "readTarget", "()Z"⟩ : Cond) ∈ aw := aw_s (by decide +kernel)
theorem ms_9 : (.selects "HeadDesk$Reader" ⟨"HeadDesk$Reader", "takeNumber", "(I)Z"⟩ ⟨"HeadDesk$Reader", "takeNumber", "(I)Z"⟩ : Cond) ∈ aw := aw_s (by decide +kernel)
theorem ms_10 : (.selects "HeadDesk$Reader" ⟨"HeadDesk$Reader", "skip", "(C)Z"⟩ ⟨"HeadDesk$Reader", "skip", "(C)Z"⟩ : Cond) ∈ aw := aw_s (by decide +kernel)
theorem ms_11 : (.selects "HeadDesk$Reader" ⟨"HeadDesk$Reader", "readName", "()Z"⟩ ⟨"HeadDesk$Reader", "readName", "()Z"⟩ : Cond) ∈ aw := aw_s (by decide +kernel)
theorem ms_12 : (.selects "HeadDesk$Reader" ⟨"HeadDesk$Reader", "takeLetters", "(I)Z"⟩ ⟨"HeadDesk$Reader", "takeLetters", "(I)Z"⟩ : Cond) ∈ aw := aw_s (by decide +kernel)
theorem ms_13 : (.selects "HeadDesk$Reader" ⟨"HeadDesk$Reader", "wasThere", "()Z"⟩ ⟨"HeadDesk$Reader", "wasThere", "()Z"⟩ : Cond) ∈ aw := aw_s (by decide +kernel)
theorem ms_14 : (.selects "HeadDesk$Reader" ⟨"HeadDesk$Reader", "isWordFrom", "(II)Z"⟩ ⟨"HeadDesk$Reader", "isWordFrom", "(II)Z"⟩ : Cond) ∈ aw := aw_s (by decide +kernel)
theorem ms_15 : (.selects "HeadDesk$Reader" ⟨"HeadDesk$Reader", "readValue", "()Z"⟩ ⟨"HeadDesk$Reader", "readValue", "()Z"⟩ : Cond) ∈ aw := aw_s (by decide +kernel)
theorem ms_16 : (.selects "HeadDesk$Reader" ⟨"HeadDesk$Reader", "isWord", "(Ljava/lang/String;)Z"⟩ ⟨"HeadDesk$Reader", "isWord", "(Ljava/lang/String;)Z"⟩ : Cond) ∈ aw := aw_s (by decide +kernel)
theorem ms_17 : (.selects "HeadDesk$Reader" ⟨"HeadDesk$Reader", "readList", "()Z"⟩ ⟨"HeadDesk$Reader", "readList", "()Z"⟩ : Cond) ∈ aw := aw_s (by decide +kernel)
theorem ms_18 : (.selects "HeadDesk$Reader" ⟨"HeadDesk$Reader", "countBare", "()V"⟩ ⟨"HeadDesk$Reader", "countBare", "()V"⟩ : Cond) ∈ aw := aw_s (by decide +kernel)
theorem ms_19 : (.selects "HeadDesk$Reader" ⟨"HeadDesk$Reader", "countWithNumber", "()V"⟩ ⟨"HeadDesk$Reader", "countWithNumber", "()V"⟩ : Cond) ∈ aw := aw_s (by decide +kernel)
theorem ms_20 : (.selects "HeadDesk$Reader" ⟨"HeadDesk$Reader", "readRange", "()Z"⟩ ⟨"HeadDesk$Reader", "readRange", "()Z"⟩ : Cond) ∈ aw := aw_s (by decide +kernel)
theorem ms_21 : (.selects "HeadDesk$Reader" ⟨"HeadDesk$Reader", "readVersions", "()Z"⟩ ⟨"HeadDesk$Reader", "readVersions", "()Z"⟩ : Cond) ∈ aw := aw_s (by decide +kernel)
theorem ms_22 : (.selects "HeadDesk$Reader" ⟨"HeadDesk$Reader", "readLength", "()Z"⟩ ⟨"HeadDesk$Reader", "readLength", "()Z"⟩ : Cond) ∈ aw := aw_s (by decide +kernel)
theorem ms_23 : (.selects "HeadDesk$Reader" ⟨"HeadDesk$Reader", "readKeys", "()Z"⟩ ⟨"HeadDesk$Reader", "readKeys", "()Z"⟩ : Cond) ∈ aw := aw_s (by decide +kernel)
theorem ms_24 : (.selects "HeadDesk$Reader" ⟨"HeadDesk$Reader", "readAnything", "()Z"⟩ ⟨"HeadDesk$Reader", "readAnything", "()Z"⟩ : Cond) ∈ aw := aw_s (by decide +kernel)
theorem ms_25 : (.selects "HeadDeskModel" ⟨"HeadDeskModel", "readText", "(Z)Z"⟩ ⟨"HeadDeskModel", "readText", "(Z)Z"⟩ : Cond) ∈ aw := aw_s (by decide +kernel)
theorem ms_26 : (.selects "HeadDeskModel" ⟨"HeadDeskModel", "see", "()I"⟩ ⟨"HeadDeskModel", "see", "()I"⟩ : Cond) ∈ aw := aw_s (by decide +kernel)
theorem ms_27 : (.selects "HeadDeskModel" ⟨"HeadDeskModel", "expectWord", "(Ljava/lang/String;)Z"⟩ ⟨"HeadDeskModel", "expectWord", "(Ljava/lang/String;)Z"⟩ : Cond) ∈ aw := aw_s (by decide +kernel)
theorem ms_28 : (.selects "HeadDeskModel" ⟨"HeadDeskModel", "expect", "(I)Z"⟩ ⟨"HeadDeskModel", "expect", "(I)Z"⟩ : Cond) ∈ aw := aw_s (by decide +kernel)
theorem ms_29 : (.selects "HeadDeskModel" ⟨"HeadDeskModel", "wrong", "(I)Z"⟩ ⟨"HeadDeskModel", "wrong", "(I)Z"⟩ : Cond) ∈ aw := aw_s (by decide +kernel)
theorem ms_30 : (.selects "HeadDeskModel" ⟨"HeadDeskModel", "target", "(Z)V"⟩ ⟨"HeadDeskModel", "target", "(Z)V"⟩ : Cond) ∈ aw := aw_s (by decide +kernel)
theorem ms_31 : (.selects "HeadDeskModel" ⟨"HeadDeskModel", "number", "(I)I"⟩ ⟨"HeadDeskModel", "number", "(I)I"⟩ : Cond) ∈ aw := aw_s (by decide +kernel)
theorem ms_32 : (.selects "HeadDeskModel" ⟨"HeadDeskModel", "line", "(Z)V"⟩ ⟨"HeadDeskModel", "line", "(Z)V"⟩ : Cond) ∈ aw := aw_s (by decide +kernel)
theorem ms_33 : (.selects "HeadDeskModel" ⟨"HeadDeskModel", "name", "()Z"⟩ ⟨"HeadDeskModel", "name", "()Z"⟩ : Cond) ∈ aw := aw_s (by decide +kernel)
theorem ms_34 : (.selects "HeadDeskModel" ⟨"HeadDeskModel", "isSame", "(IIII)Z"⟩ ⟨"HeadDeskModel", "isSame", "(IIII)Z"⟩ : Cond) ∈ aw := aw_s (by decide +kernel)
theorem ms_35 : (.selects "HeadDeskModel" ⟨"HeadDeskModel", "isNamed", "(Ljava/lang/String;)Z"⟩ ⟨"HeadDeskModel", "isNamed", "(Ljava/lang/String;)Z"⟩ : Cond) ∈ aw := aw_s (by decide +kernel)
theorem ms_36 : (.selects "HeadDeskModel" ⟨"HeadDeskModel", "range", "()V"⟩ ⟨"HeadDeskModel", "range", "()V"⟩ : Cond) ∈ aw := aw_s (by decide +kernel)
theorem ms_37 : (.selects "HeadDeskModel" ⟨"HeadDeskModel", "matching", "()V"⟩ ⟨"HeadDeskModel", "matching", "()V"⟩ : Cond) ∈ aw := aw_s (by decide +kernel)
theorem ms_38 : (.selects "HeadDeskModel" ⟨"HeadDeskModel", "list", "(Z)V"⟩ ⟨"HeadDeskModel", "list", "(Z)V"⟩ : Cond) ∈ aw := aw_s (by decide +kernel)
theorem ms_39 : (.selects "HeadDeskModel" ⟨"HeadDeskModel", "requestWord", "()V"⟩ ⟨"HeadDeskModel", "requestWord", "()V"⟩ : Cond) ∈ aw := aw_s (by decide +kernel)
theorem ms_40 : (.selects "HeadDeskModel" ⟨"HeadDeskModel", "isWord", "(Ljava/lang/String;)Z"⟩ ⟨"HeadDeskModel", "isWord", "(Ljava/lang/String;)Z"⟩ : Cond) ∈ aw := aw_s (by decide +kernel)
theorem ms_41 : (.selects "HeadDeskModel" ⟨"HeadDeskModel", "thingWord", "()V"⟩ ⟨"HeadDeskModel", "thingWord", "()V"⟩ : Cond) ∈ aw := aw_s (by decide +kernel)
theorem ms_42 : (.selects "HeadDeskModel" ⟨"HeadDeskModel", "keyLetters", "()V"⟩ ⟨"HeadDeskModel", "keyLetters", "()V"⟩ : Cond) ∈ aw := aw_s (by decide +kernel)
theorem ms_43 : (.selects "HeadDeskModel" ⟨"HeadDeskModel", "anyValue", "()V"⟩ ⟨"HeadDeskModel", "anyValue", "()V"⟩ : Cond) ∈ aw := aw_s (by decide +kernel)
theorem ms_44 : (.selects "HeadDeskModel" ⟨"HeadDeskModel", "keep", "(Z)V"⟩ ⟨"HeadDeskModel", "keep", "(Z)V"⟩ : Cond) ∈ aw := aw_s (by decide +kernel)
