theorem m_1 : (.fieldLink "HeadDesk$Tape" 13 "HeadDesk$Tape" "length" "I" : Cond) ∈ aw := aw_1 (i := 31) rfl rfl
theorem m_2 : (.fieldLink "HeadDesk$Tape" 9 "HeadDesk$Tape" "marks" "[C" : Cond) ∈ aw := aw_1 (i := 30) rfl rfl
theorem m_3 : (.methodLink "HeadDesk$Tape" 17 ⟨"HeadDesk$Tape", "byteOf", "(JI)I"⟩ : Cond) ∈ aw := aw_1 (i := 120) rfl rfl
theorem m_4 : (.code ⟨"HeadDesk$Tape", "byteOf", "(JI)I"⟩ prog_4_method_5_code 3 (some .int) : Cond) ∈ aw := aw_1 (i := 122) rfl rfl
theorem m_5 : (.static ⟨"HeadDesk$Tape", "byteOf", "(JI)I"⟩ : Cond) ∈ aw := aw_1 (i := 121) rfl rfl
theorem m_6 : (.initialized "HeadDesk$Tape" : Cond) ∈ aw := aw_1 (i := 2) rfl rfl
theorem m_7 : (.methodLink "HeadDesk$Tape" 21 ⟨"HeadDesk$Tape", "mayStand", "(I)Z"⟩ : Cond) ∈ aw := aw_1 (i := 123) rfl rfl
theorem m_8 : (.code ⟨"HeadDesk$Tape", "mayStand", "(I)Z"⟩ prog_4_method_6_code 1 (some .boolean) : Cond) ∈ aw := aw_1 (i := 125) rfl rfl
theorem m_9 : (.static ⟨"HeadDesk$Tape", "mayStand", "(I)Z"⟩ : Cond) ∈ aw := aw_1 (i := 124) rfl rfl
theorem m_10 : (.fieldLink "HeadDesk$Head" 15 "HeadDesk$Head" "values" "[I" : Cond) ∈ aw := aw_1 (i := 52) rfl rfl
theorem m_11 : (.fieldLink "HeadDesk$Head" 18 "HeadDesk$Head" "versions" "[I" : Cond) ∈ aw := aw_1 (i := 53) rfl rfl
theorem m_12 : (.methodLink "HeadDesk$Head" 27 ⟨"HeadDesk$Head", "hasVersion", "(I)Z"⟩ : Cond) ∈ aw := aw_1 (i := 146) rfl rfl
theorem m_13 : (.code ⟨"HeadDesk$Head", "hasVersion", "(I)Z"⟩ prog_2_method_9_code 3 (some .boolean) : Cond) ∈ aw := aw_1 (i := 149) rfl rfl
theorem m_14 : (.instanceMethod ⟨"HeadDesk$Head", "hasVersion", "(I)Z"⟩ : Cond) ∈ aw := aw_1 (i := 148) rfl rfl
theorem m_15 : (.selects "HeadDesk$Head" ⟨"HeadDesk$Head", "hasVersion", "(I)Z"⟩ ⟨"HeadDesk$Head", "hasVersion", "(I)Z"⟩ : Cond) ∈ aw := aw_s (by decide +kernel)
theorem m_16 : (.initialized "HeadDesk$Head" : Cond) ∈ aw := aw_1 (i := 4) rfl rfl
theorem m_17 : (.fieldLink "HeadDesk$Head" 9 "HeadDesk$Head" "AT_FIRST" "[I" : Cond) ∈ aw := aw_1 (i := 50) rfl rfl
theorem m_18 : (.methodLink "HeadDesk$Head" 21 ⟨"java/lang/System", "arraycopy", "(Ljava/lang/Object;ILjava/lang/Object;II)V"⟩ : Cond) ∈ aw := aw_2 (i := 10) rfl rfl
theorem m_19 : (.native ⟨"java/lang/System", "arraycopy", "(Ljava/lang/Object;ILjava/lang/Object;II)V"⟩ : Cond) ∈ aw := aw_2 (i := 12) rfl rfl
theorem m_20 : (.static ⟨"java/lang/System", "arraycopy", "(Ljava/lang/Object;ILjava/lang/Object;II)V"⟩ : Cond) ∈ aw := aw_2 (i := 11) rfl rfl
theorem m_21 : (.initialized "java/lang/System" : Cond) ∈ aw := aw_1 (i := 10) rfl rfl
