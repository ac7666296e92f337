theorem m_1 : (.fieldLink "HeadDesk$Tape" 13 "HeadDesk$Tape" "length" "I" : Cond) ∈ aw := aw_1 (i := 31) rfl rfl
theorem m_2 : (.fieldLink "HeadDesk$Tape" 9 "HeadDesk$Tape" "marks" "[C" : Cond) ∈ aw := aw_1 (i := 30) rfl rfl
theorem m_3 : (.methodLink "HeadDesk$Tape" 17 ⟨"HeadDesk$Tape", "byteOf", "(JI)I"⟩ : Cond) ∈ aw := aw_1 (i := 120) rfl rfl
theorem m_4 : (.code ⟨"HeadDesk$Tape", "byteOf", "(JI)I"⟩ prog_4_method_5_code 3 (some .int) : Cond) ∈ aw := aw_1 (i := 122) rfl rfl
theorem m_5 : (.static ⟨"HeadDesk$Tape", "byteOf", "(JI)I"⟩ : Cond) ∈ aw := aw_1 (i := 121) rfl rfl
theorem m_6 : (.initialized "HeadDesk$Tape" : Cond) ∈ aw := aw_1 (i := 2) rfl rfl
theorem m_7 : (.methodLink "HeadDesk$Tape" 21 ⟨"HeadDesk$Tape", "mayStand", "(I)Z"⟩ : Cond) ∈ aw := aw_1 (i := 123) rfl rfl
theorem m_8 : (.code ⟨"HeadDesk$Tape", "mayStand", "(I)Z"⟩ prog_4_method_6_code 1 (some .boolean) : Cond) ∈ aw := aw_1 (i := 125) rfl rfl
theorem m_9 : (.static ⟨"HeadDesk$Tape", "mayStand", "(I)Z"⟩ : Cond) ∈ aw := aw_1 (i := 124) rfl rfl
theorem m_10 : (.fieldLink "HeadDesk$Head" 15 "HeadDesk$Head" "values" "[I" : Cond) ∈ aw := aw_1 (i := 52) rfl rfl
theorem m_11 : (.fieldLink "HeadDesk$Head" 18 "HeadDesk$Head" "versions" "[I" : Cond) ∈ aw := aw_1 (i := 53) rfl rfl
theorem m_12 : (.methodLink "HeadDesk$Head" 27 ⟨"HeadDesk$Head", "hasVersion", "(I)Z"⟩ : Cond) ∈ aw := aw_1 (i := 146) rfl rfl
theorem m_13 : (.code ⟨"HeadDesk$Head", "hasVersion", "(I)Z"⟩ prog_2_method_9_code 3 (some .boolean) : Cond) ∈ aw := aw_1 (i := 149) rfl rfl
theorem m_14 : (.instanceMethod ⟨"HeadDesk$Head", "hasVersion", "(I)Z"⟩ : Cond) ∈ aw := aw_1 (i := 148) rfl rfl
theorem m_15 : (.selects "HeadDesk$Head" ⟨"HeadDesk$Head", "hasVersion", "(I)Z"⟩ ⟨"HeadDesk$Head", "hasVersion", "(I)Z"⟩ : Cond) ∈ aw := aw_s (by decide +kernel)
theorem m_16 : (.initialized "HeadDesk$Head" : Cond) ∈ aw := aw_1 (i := 4) rfl rfl
theorem m_17 : (.fieldLink "HeadDesk$Head" 9 "HeadDesk$Head" "AT_FIRST" "[I" : Cond) ∈ aw := aw_1 (i := 50) rfl rfl
theorem m_18 : (.methodLink "HeadDesk$Head" 21 ⟨"java/lang/System", "arraycopy", "(Ljava/lang/Object;ILjava/lang/Object;II)V"⟩ : Cond) ∈ aw := aw_2 (i := 10) rfl rfl
theorem m_19 : (.native ⟨"java/lang/System", "arraycopy", "(Ljava/lang/Object;ILjava/lang/Object;II)V"⟩ : Cond) ∈ aw := aw_2 (i := 12) rfl rfl
theorem m_20 : (.static ⟨"java/lang/System", "arraycopy", "(Ljava/lang/Object;ILjava/lang/Object;II)V"⟩ : Cond) ∈ aw := aw_2 (i := 11) rfl rfl
theorem m_21 : (.initialized "java/lang/System" : Cond) ∈ aw := aw_1 (i := 10) rfl rfl
theorem m_22 : (.fieldLink "HeadDesk$Reader" 49 "HeadDesk$Reader" "tape" "LHeadDesk$Tape;" : Cond) ∈ aw := aw_1 (i := 60) rfl rfl
theorem m_23 : (.fieldLink "HeadDesk$Reader" 34 "HeadDesk$Reader" "place" "I" : Cond) ∈ aw := aw_1 (i := 66) rfl rfl
theorem m_24 : (.methodLink "HeadDesk$Reader" 184 ⟨"HeadDesk$Tape", "markAt", "(I)I"⟩ : Cond) ∈ aw := aw_2 (i := 44) rfl rfl
theorem m_25 : (.code ⟨"HeadDesk$Tape", "markAt", "(I)I"⟩ prog_4_method_4_code 2 (some .int) : Cond) ∈ aw := aw_2 (i := 47) rfl rfl
theorem m_26 : (.instanceMethod ⟨"HeadDesk$Tape", "markAt", "(I)I"⟩ : Cond) ∈ aw := aw_2 (i := 45) rfl rfl
theorem m_27 : (.selects "HeadDesk$Tape" ⟨"HeadDesk$Tape", "markAt", "(I)I"⟩ ⟨"HeadDesk$Tape", "markAt", "(I)I"⟩ : Cond) ∈ aw := aw_2 (i := 46) rfl rfl
theorem m_28 : (.fieldLink "HeadDesk$Reader" 37 "HeadDesk$Reader" "stuck" "I" : Cond) ∈ aw := aw_1 (i := 67) rfl rfl
theorem m_29 : (.methodLink "HeadDesk$Reader" 64 ⟨"HeadDesk$Reader", "mark", "()I"⟩ : Cond) ∈ aw := aw_2 (i := 40) rfl rfl
theorem m_30 : (.code ⟨"HeadDesk$Reader", "mark", "()I"⟩ prog_3_method_19_code 1 (some .int) : Cond) ∈ aw := aw_2 (i := 43) rfl rfl
theorem m_31 : (.instanceMethod ⟨"HeadDesk$Reader", "mark", "()I"⟩ : Cond) ∈ aw := aw_2 (i := 42) rfl rfl
theorem m_32 : (.selects "HeadDesk$Reader" ⟨"HeadDesk$Reader", "mark", "()I"⟩ ⟨"HeadDesk$Reader", "mark", "()I"⟩ : Cond) ∈ aw := aw_s (by decide +kernel)
theorem m_33 : (.initialized "HeadDesk$Reader" : Cond) ∈ aw := aw_1 (i := 3) rfl rfl
theorem m_34 : (.methodLink "HeadDesk$Reader" 68 ⟨"HeadDesk$Reader", "stop", "(I)Z"⟩ : Cond) ∈ aw := aw_2 (i := 86) rfl rfl
theorem m_35 : (.code ⟨"HeadDesk$Reader", "stop", "(I)Z"⟩ prog_3_method_20_code 2 (some .boolean) : Cond) ∈ aw := aw_2 (i := 89) rfl rfl
theorem m_36 : (.instanceMethod ⟨"HeadDesk$Reader", "stop", "(I)Z"⟩ : Cond) ∈ aw := aw_2 (i := 88) rfl rfl
theorem m_37 : (.selects "HeadDesk$Reader" ⟨"HeadDesk$Reader", "stop", "(I)Z"⟩ ⟨"HeadDesk$Reader", "stop", "(I)Z"⟩ : Cond) ∈ aw := aw_s (by decide +kernel)
theorem m_38 : (.fieldLink "HeadDesk$Reader" 40 "HeadDesk$Reader" "number" "I" : Cond) ∈ aw := aw_1 (i := 68) rfl rfl
theorem m_39 : (.methodLink "HeadDesk$Reader" 152 ⟨"HeadDesk$Reader", "isDigit", "(I)Z"⟩ : Cond) ∈ aw := aw_2 (i := 104) rfl rfl
theorem m_40 : (.code ⟨"HeadDesk$Reader", "isDigit", "(I)Z"⟩ prog_3_method_28_code 1 (some .boolean) : Cond) ∈ aw := aw_2 (i := 106) rfl rfl
theorem m_41 : (.static ⟨"HeadDesk$Reader", "isDigit", "(I)Z"⟩ : Cond) ∈ aw := aw_2 (i := 105) rfl rfl
theorem m_42 : (.fieldLink "HeadDesk$Reader" 43 "HeadDesk$Reader" "wordStart" "I" : Cond) ∈ aw := aw_1 (i := 69) rfl rfl
theorem m_43 : (.fieldLink "HeadDesk$Reader" 46 "HeadDesk$Reader" "wordEnd" "I" : Cond) ∈ aw := aw_1 (i := 70) rfl rfl
theorem m_44 : (.methodLink "HeadDesk$Reader" 196 ⟨"HeadDesk$Reader", "isLetter", "(I)Z"⟩ : Cond) ∈ aw := aw_2 (i := 119) rfl rfl
theorem m_45 : (.code ⟨"HeadDesk$Reader", "isLetter", "(I)Z"⟩ prog_3_method_29_code 1 (some .boolean) : Cond) ∈ aw := aw_2 (i := 121) rfl rfl
theorem m_46 : (.static ⟨"HeadDesk$Reader", "isLetter", "(I)Z"⟩ : Cond) ∈ aw := aw_2 (i := 120) rfl rfl
