def TT : List Cond := lw_tbl.filter goodWord
theorem tt_of {w : Cond} (h : w ∈ lw_tbl) (g : goodWord w = true) : w ∈ TT := List.mem_filter.mpr ⟨h, g⟩
theorem tt_tbl {w : Cond} (h : w ∈ TT) : w ∈ lw_tbl := (List.mem_filter.mp h).1
theorem tt_good : GoodIn TT TT := fun w h => ⟨h, good_of_word (List.mem_filter.mp h).2⟩
theorem tt_code {w : Cond} (h : w ∈ TT) : GoodIn TT (w :: TT) := fun v hv => (List.mem_cons.mp hv).elim (fun e => by rw [e]; exact tt_good w h) (tt_good v)
theorem tt_codeL {w : Cond} (h : w ∈ TT) : GoodIn lw_tbl (w :: TT) := fun v hv => ⟨tt_tbl (tt_code h v hv).1, (tt_code h v hv).2⟩
theorem in_0 {w : Cond} (h : w ∈ tables_1) : w ∈ lw_tbl := List.mem_append_right _ h
theorem in_1 {w : Cond} (h : w ∈ tables_1_1) : w ∈ lw_tbl := in_0 (List.mem_append_left _ h)
theorem in_2 {w : Cond} (h : w ∈ tables_1_2) : w ∈ lw_tbl := in_0 (List.mem_append_right _ (List.mem_append_left _ h))
theorem in_3 {w : Cond} (h : w ∈ tables_1_3) : w ∈ lw_tbl := in_0 (List.mem_append_right _ (List.mem_append_right _ (List.mem_append_left _ h)))
theorem in_4 {w : Cond} (h : w ∈ tables_1_4) : w ∈ lw_tbl := in_0 (List.mem_append_right _ (List.mem_append_right _ (List.mem_append_right _ (List.mem_append_left _ h))))
theorem in_5 {w : Cond} (h : w ∈ tables_1_5) : w ∈ lw_tbl := in_0 (List.mem_append_right _ (List.mem_append_right _ (List.mem_append_right _ (List.mem_append_right _ (List.mem_append_left _ h)))))
theorem in_6 {w : Cond} (h : w ∈ tables_1_6) : w ∈ lw_tbl := in_0 (List.mem_append_right _ (List.mem_append_right _ (List.mem_append_right _ (List.mem_append_right _ (List.mem_append_right _ (List.mem_append_left _ h))))))
theorem in_7 {w : Cond} (h : w ∈ tables_1_7) : w ∈ lw_tbl := in_0 (List.mem_append_right _ (List.mem_append_right _ (List.mem_append_right _ (List.mem_append_right _ (List.mem_append_right _ (List.mem_append_right _ (List.mem_append_left _ h)))))))
theorem in_8 {w : Cond} (h : w ∈ tables_1_8) : w ∈ lw_tbl := in_0 (List.mem_append_right _ (List.mem_append_right _ (List.mem_append_right _ (List.mem_append_right _ (List.mem_append_right _ (List.mem_append_right _ (List.mem_append_right _ (List.mem_append_left _ h))))))))
theorem in_9 {w : Cond} (h : w ∈ tables_1_9) : w ∈ lw_tbl := in_0 (List.mem_append_right _ (List.mem_append_right _ (List.mem_append_right _ (List.mem_append_right _ (List.mem_append_right _ (List.mem_append_right _ (List.mem_append_right _ (List.mem_append_right _ (h)))))))))
theorem tw_0 : Cond.initialized RL ∈ TT := tt_of (in_1 (List.mem_of_getElem? (i := 0) rfl)) rfl
theorem tw_1 : Cond.initialized RX10 ∈ TT := tt_of (in_1 (List.mem_of_getElem? (i := 1) rfl)) rfl
theorem tw_2 : Cond.initialized RX8 ∈ TT := tt_of (in_1 (List.mem_of_getElem? (i := 2) rfl)) rfl
theorem tw_3 : Cond.initialized RJ0 ∈ TT := tt_of (in_1 (List.mem_of_getElem? (i := 3) rfl)) rfl
theorem tw_4 : Cond.initialized RJ1 ∈ TT := tt_of (in_1 (List.mem_of_getElem? (i := 4) rfl)) rfl
theorem tw_5 : Cond.initialized RJ3 ∈ TT := tt_of (in_1 (List.mem_of_getElem? (i := 5) rfl)) rfl
theorem tw_6 : Cond.initialized RJ2 ∈ TT := tt_of (in_1 (List.mem_of_getElem? (i := 6) rfl)) rfl
theorem tw_7 : Cond.initialized RX1 ∈ TT := tt_of (in_1 (List.mem_of_getElem? (i := 7) rfl)) rfl
theorem tw_8 : Cond.initialized RJ7 ∈ TT := tt_of (in_1 (List.mem_of_getElem? (i := 8) rfl)) rfl
theorem tw_9 : Cond.initialized RX2 ∈ TT := tt_of (in_1 (List.mem_of_getElem? (i := 9) rfl)) rfl
theorem tw_10 : Cond.initialized RX4 ∈ TT := tt_of (in_1 (List.mem_of_getElem? (i := 10) rfl)) rfl
theorem tw_11 : Cond.initialized RX9 ∈ TT := tt_of (in_1 (List.mem_of_getElem? (i := 11) rfl)) rfl
theorem tw_12 : Cond.initialized RX5 ∈ TT := tt_of (in_1 (List.mem_of_getElem? (i := 12) rfl)) rfl
theorem tw_13 : Cond.initialized RX0 ∈ TT := tt_of (in_1 (List.mem_of_getElem? (i := 13) rfl)) rfl
theorem tw_14 : Cond.initialized RX6 ∈ TT := tt_of (in_1 (List.mem_of_getElem? (i := 14) rfl)) rfl
theorem tw_15 : Cond.initialized RX7 ∈ TT := tt_of (in_1 (List.mem_of_getElem? (i := 15) rfl)) rfl
theorem tw_16 : Cond.initialized RX3 ∈ TT := tt_of (in_1 (List.mem_of_getElem? (i := 16) rfl)) rfl
theorem tw_17 : Cond.initialized RJ10 ∈ TT := tt_of (in_1 (List.mem_of_getElem? (i := 17) rfl)) rfl
theorem tw_18 : Cond.initialized RX11 ∈ TT := tt_of (in_1 (List.mem_of_getElem? (i := 18) rfl)) rfl
theorem tw_19 : Cond.initialized RJ9 ∈ TT := tt_of (in_1 (List.mem_of_getElem? (i := 19) rfl)) rfl
theorem tw_20 : Cond.initialized "java/lang/Throwable" ∈ TT := tt_of (in_1 (List.mem_of_getElem? (i := 20) rfl)) rfl
theorem tw_21 : Cond.initialized "java/lang/Exception" ∈ TT := tt_of (in_1 (List.mem_of_getElem? (i := 21) rfl)) rfl
theorem tw_22 : Cond.initialized "java/lang/RuntimeException" ∈ TT := tt_of (in_1 (List.mem_of_getElem? (i := 22) rfl)) rfl
theorem tw_23 : Cond.initialized "java/util/NoSuchElementException" ∈ TT := tt_of (in_1 (List.mem_of_getElem? (i := 23) rfl)) rfl
theorem tw_24 : Cond.initialized RJ6 ∈ TT := tt_of (in_1 (List.mem_of_getElem? (i := 24) rfl)) rfl
theorem tw_25 : Cond.classLink RL 8 RX10 ∈ TT := tt_of (in_1 (List.mem_of_getElem? (i := 25) rfl)) rfl
theorem tw_26 : Cond.instantiable RX10 14 ∈ TT := tt_of (in_1 (List.mem_of_getElem? (i := 26) rfl)) rfl
theorem tw_27 : Cond.methodLink RL 15 yX10_init ∈ TT := tt_of (in_1 (List.mem_of_getElem? (i := 27) rfl)) rfl
theorem tw_28 : Cond.instanceMethod yX10_init ∈ TT := tt_of (in_1 (List.mem_of_getElem? (i := 28) rfl)) rfl
theorem tw_29 : Cond.code yX10_init cX10_init 2 none ∈ TT := tt_of (in_1 (List.mem_of_getElem? (i := 29) rfl)) rfl
theorem tw_30 : Cond.methodLink RX10 1 ⟨"java/lang/Object", "<init>", "()V"⟩ ∈ TT := tt_of (in_1 (List.mem_of_getElem? (i := 30) rfl)) rfl
theorem tw_31 : Cond.instanceMethod ⟨"java/lang/Object", "<init>", "()V"⟩ ∈ TT := tt_of (in_1 (List.mem_of_getElem? (i := 31) rfl)) rfl
theorem tw_32 : Cond.code ⟨"java/lang/Object", "<init>", "()V"⟩ object_method_1_code 1 none ∈ TT := tt_of (in_1 (List.mem_of_getElem? (i := 32) rfl)) rfl
theorem tw_33 : Cond.classLink RX10 7 RX8 ∈ TT := tt_of (in_1 (List.mem_of_getElem? (i := 33) rfl)) rfl
theorem tw_34 : Cond.instantiable RX8 14 ∈ TT := tt_of (in_1 (List.mem_of_getElem? (i := 34) rfl)) rfl
theorem tw_35 : Cond.methodLink RX10 9 yX8_init ∈ TT := tt_of (in_1 (List.mem_of_getElem? (i := 35) rfl)) rfl
theorem tw_36 : Cond.instanceMethod yX8_init ∈ TT := tt_of (in_1 (List.mem_of_getElem? (i := 36) rfl)) rfl
theorem tw_37 : Cond.code yX8_init cX8_init 4 none ∈ TT := tt_of (in_1 (List.mem_of_getElem? (i := 37) rfl)) rfl
theorem tw_38 : Cond.methodLink RX8 3 ⟨"java/lang/Object", "<init>", "()V"⟩ ∈ TT := tt_of (in_1 (List.mem_of_getElem? (i := 38) rfl)) rfl
theorem tw_40 : Cond.methodLink RX8 21 yJ0_length_8abf5 ∈ TT := tt_of (in_1 (List.mem_of_getElem? (i := 40) rfl)) rfl
theorem tw_41 : Cond.instanceMethod yJ0_length_8abf5 ∈ TT := tt_of (in_1 (List.mem_of_getElem? (i := 41) rfl)) rfl
theorem tw_42 : Cond.selects RJ0 yJ0_length_8abf5 yJ0_length_8abf5 ∈ TT := tt_of (in_1 (List.mem_of_getElem? (i := 42) rfl)) rfl
theorem tw_43 : Cond.code yJ0_length_8abf5 cJ0_length_8abf5 1 (some .int) ∈ TT := tt_of (in_1 (List.mem_of_getElem? (i := 43) rfl)) rfl
theorem tw_44 : Cond.methodLink RJ0 335 yJ0_coder_7d493 ∈ TT := tt_of (in_1 (List.mem_of_getElem? (i := 44) rfl)) rfl
theorem tw_45 : Cond.instanceMethod yJ0_coder_7d493 ∈ TT := tt_of (in_1 (List.mem_of_getElem? (i := 45) rfl)) rfl
theorem tw_46 : Cond.selects RJ0 yJ0_coder_7d493 yJ0_coder_7d493 ∈ TT := tt_of (in_1 (List.mem_of_getElem? (i := 46) rfl)) rfl
theorem tw_47 : Cond.code yJ0_coder_7d493 cJ0_coder_7d493 1 (some .byte) ∈ TT := tt_of (in_1 (List.mem_of_getElem? (i := 47) rfl)) rfl
theorem tw_48 : Cond.fieldLink RJ0 38 "java/lang/String" "COMPACT_STRINGS" "Z" ∈ TT := tt_of (in_1 (List.mem_of_getElem? (i := 48) rfl)) rfl
theorem tw_50 : Cond.methodLink RX8 27 yJ0_charAt_5068e ∈ TT := tt_of (in_1 (List.mem_of_getElem? (i := 50) rfl)) rfl
theorem tw_51 : Cond.instanceMethod yJ0_charAt_5068e ∈ TT := tt_of (in_1 (List.mem_of_getElem? (i := 51) rfl)) rfl
theorem tw_52 : Cond.selects RJ0 yJ0_charAt_5068e yJ0_charAt_5068e ∈ TT := tt_of (in_1 (List.mem_of_getElem? (i := 52) rfl)) rfl
theorem tw_53 : Cond.code yJ0_charAt_5068e cJ0_charAt_5068e 2 (some .char) ∈ TT := tt_of (in_1 (List.mem_of_getElem? (i := 53) rfl)) rfl
theorem tw_54 : Cond.methodLink RJ0 492 yJ0_isLatin1_aae02 ∈ TT := tt_of (in_1 (List.mem_of_getElem? (i := 54) rfl)) rfl
theorem tw_55 : Cond.instanceMethod yJ0_isLatin1_aae02 ∈ TT := tt_of (in_1 (List.mem_of_getElem? (i := 55) rfl)) rfl
theorem tw_56 : Cond.selects RJ0 yJ0_isLatin1_aae02 yJ0_isLatin1_aae02 ∈ TT := tt_of (in_1 (List.mem_of_getElem? (i := 56) rfl)) rfl
theorem tw_57 : Cond.code yJ0_isLatin1_aae02 cJ0_isLatin1_aae02 1 (some .boolean) ∈ TT := tt_of (in_1 (List.mem_of_getElem? (i := 57) rfl)) rfl
theorem tw_58 : Cond.methodLink RJ0 495 yJ1_charAt_3b067 ∈ TT := tt_of (in_1 (List.mem_of_getElem? (i := 58) rfl)) rfl
theorem tw_59 : Cond.static yJ1_charAt_3b067 ∈ TT := tt_of (in_1 (List.mem_of_getElem? (i := 59) rfl)) rfl
theorem tw_60 : Cond.code yJ1_charAt_3b067 cJ1_charAt_3b067 2 (some .char) ∈ TT := tt_of (in_1 (List.mem_of_getElem? (i := 60) rfl)) rfl
theorem tw_61 : Cond.methodLink RJ1 9 yJ0_checkIndex_df160 ∈ TT := tt_of (in_1 (List.mem_of_getElem? (i := 61) rfl)) rfl
theorem tw_62 : Cond.static yJ0_checkIndex_df160 ∈ TT := tt_of (in_1 (List.mem_of_getElem? (i := 62) rfl)) rfl
theorem tw_63 : Cond.code yJ0_checkIndex_df160 cJ0_checkIndex_df160 2 none ∈ TT := tt_of (in_1 (List.mem_of_getElem? (i := 63) rfl)) rfl
theorem tw_64 : Cond.fieldLink RJ0 1053 "jdk/internal/util/Preconditions" "SIOOBE_FORMATTER" "Ljava/util/function/BiFunction;" ∈ TT := tt_of (in_1 (List.mem_of_getElem? (i := 64) rfl)) rfl
theorem tw_66 : Cond.methodLink RJ0 1059 yJ3_checkIndex_8e157 ∈ TT := tt_of (in_1 (List.mem_of_getElem? (i := 66) rfl)) rfl
theorem tw_67 : Cond.static yJ3_checkIndex_8e157 ∈ TT := tt_of (in_1 (List.mem_of_getElem? (i := 67) rfl)) rfl
theorem tw_68 : Cond.code yJ3_checkIndex_8e157 cJ3_checkIndex_8e157 3 (some .int) ∈ TT := tt_of (in_1 (List.mem_of_getElem? (i := 68) rfl)) rfl
theorem tw_69 : Cond.methodLink RJ0 498 yJ2_charAt_3b067 ∈ TT := tt_of (in_1 (List.mem_of_getElem? (i := 69) rfl)) rfl
theorem tw_70 : Cond.static yJ2_charAt_3b067 ∈ TT := tt_of (in_1 (List.mem_of_getElem? (i := 70) rfl)) rfl
theorem tw_71 : Cond.code yJ2_charAt_3b067 cJ2_charAt_3b067 2 (some .char) ∈ TT := tt_of (in_1 (List.mem_of_getElem? (i := 71) rfl)) rfl
theorem tw_72 : Cond.methodLink RJ2 67 yJ2_checkIndex_2214a ∈ TT := tt_of (in_1 (List.mem_of_getElem? (i := 72) rfl)) rfl
theorem tw_73 : Cond.static yJ2_checkIndex_2214a ∈ TT := tt_of (in_1 (List.mem_of_getElem? (i := 73) rfl)) rfl
theorem tw_74 : Cond.code yJ2_checkIndex_2214a cJ2_checkIndex_2214a 2 none ∈ TT := tt_of (in_1 (List.mem_of_getElem? (i := 74) rfl)) rfl
theorem tw_75 : Cond.methodLink RJ2 48 yJ2_length_9d52b ∈ TT := tt_of (in_1 (List.mem_of_getElem? (i := 75) rfl)) rfl
theorem tw_76 : Cond.static yJ2_length_9d52b ∈ TT := tt_of (in_1 (List.mem_of_getElem? (i := 76) rfl)) rfl
theorem tw_77 : Cond.code yJ2_length_9d52b cJ2_length_9d52b 1 (some .int) ∈ TT := tt_of (in_1 (List.mem_of_getElem? (i := 77) rfl)) rfl
theorem tw_78 : Cond.methodLink RJ2 414 yJ0_checkIndex_df160 ∈ TT := tt_of (in_1 (List.mem_of_getElem? (i := 78) rfl)) rfl
theorem tw_79 : Cond.methodLink RJ2 71 yJ2_getChar_3b067 ∈ TT := tt_of (in_1 (List.mem_of_getElem? (i := 79) rfl)) rfl
theorem tw_80 : Cond.static yJ2_getChar_3b067 ∈ TT := tt_of (in_1 (List.mem_of_getElem? (i := 80) rfl)) rfl
theorem tw_81 : Cond.code yJ2_getChar_3b067 cJ2_getChar_3b067 2 (some .char) ∈ TT := tt_of (in_1 (List.mem_of_getElem? (i := 81) rfl)) rfl
theorem tw_82 : Cond.fieldLink RJ2 44 "java/lang/StringUTF16" "$assertionsDisabled" "Z" ∈ TT := tt_of (in_1 (List.mem_of_getElem? (i := 82) rfl)) rfl
theorem tw_84 : Cond.fieldLink RJ2 59 "java/lang/StringUTF16" "HI_BYTE_SHIFT" "I" ∈ TT := tt_of (in_1 (List.mem_of_getElem? (i := 84) rfl)) rfl
theorem tw_86 : Cond.fieldLink RJ2 63 "java/lang/StringUTF16" "LO_BYTE_SHIFT" "I" ∈ TT := tt_of (in_1 (List.mem_of_getElem? (i := 86) rfl)) rfl
theorem tw_88 : Cond.constantLong RX8 31 (32 : Int64) ∈ TT := tt_of (in_1 (List.mem_of_getElem? (i := 88) rfl)) rfl
theorem tw_89 : Cond.constantLong RX8 33 (96 : Int64) ∈ TT := tt_of (in_1 (List.mem_of_getElem? (i := 89) rfl)) rfl
theorem tw_90 : Cond.fieldLink RX8 11 "StrangerMarket$Tape" "bytes" "[I" ∈ TT := tt_of (in_1 (List.mem_of_getElem? (i := 90) rfl)) rfl
theorem tw_92 : Cond.fieldLink RX8 15 "StrangerMarket$Tape" "reserved" "[J" ∈ TT := tt_of (in_1 (List.mem_of_getElem? (i := 92) rfl)) rfl
theorem tw_93 : Cond.fieldLink RX8 35 "StrangerMarket$Tape" "length" "I" ∈ TT := tt_of (in_1 (List.mem_of_getElem? (i := 93) rfl)) rfl
theorem tw_96 : Cond.fieldLink RX8 44 "StrangerMarket$Tape" "cut" "I" ∈ TT := tt_of (in_1 (List.mem_of_getElem? (i := 96) rfl)) rfl
theorem tw_97 : Cond.fieldLink RX8 47 "StrangerMarket$Tape" "isTooLong" "Z" ∈ TT := tt_of (in_1 (List.mem_of_getElem? (i := 97) rfl)) rfl
theorem tw_98 : Cond.fieldLink RX8 51 "StrangerMarket$Tape" "at" "I" ∈ TT := tt_of (in_1 (List.mem_of_getElem? (i := 98) rfl)) rfl
theorem tw_99 : Cond.fieldLink RX8 72 "StrangerMarket$Tape" "kind" "I" ∈ TT := tt_of (in_1 (List.mem_of_getElem? (i := 99) rfl)) rfl
theorem tw_100 : Cond.fieldLink RX8 63 "StrangerMarket$Tape" "start" "I" ∈ TT := tt_of (in_1 (List.mem_of_getElem? (i := 100) rfl)) rfl
theorem tw_104 : Cond.fieldLink RX8 66 "StrangerMarket$Tape" "word" "I" ∈ TT := tt_of (in_1 (List.mem_of_getElem? (i := 104) rfl)) rfl
theorem tw_106 : Cond.fieldLink RX8 69 "StrangerMarket$Tape" "sign" "I" ∈ TT := tt_of (in_1 (List.mem_of_getElem? (i := 106) rfl)) rfl
theorem tw_107 : Cond.fieldLink RX8 90 "StrangerMarket$Tape" "value" "I" ∈ TT := tt_of (in_1 (List.mem_of_getElem? (i := 107) rfl)) rfl
theorem tw_108 : Cond.fieldLink RX8 82 "StrangerMarket$Tape" "letters" "J" ∈ TT := tt_of (in_1 (List.mem_of_getElem? (i := 108) rfl)) rfl
theorem tw_110 : Cond.fieldLink RX8 54 "StrangerMarket$Tape" "faultKind" "I" ∈ TT := tt_of (in_1 (List.mem_of_getElem? (i := 110) rfl)) rfl
theorem tw_113 : Cond.fieldLink RX8 57 "StrangerMarket$Tape" "faultPlace" "I" ∈ TT := tt_of (in_1 (List.mem_of_getElem? (i := 113) rfl)) rfl
theorem tw_143 : Cond.arrayClass .int ∈ TT := tt_of (in_1 (List.mem_of_getElem? (i := 143) rfl)) rfl
theorem tw_144 : Cond.arrayClass .long ∈ TT := tt_of (in_1 (List.mem_of_getElem? (i := 144) rfl)) rfl
theorem tw_145 : Cond.arrayClass .byte ∈ TT := tt_of (in_1 (List.mem_of_getElem? (i := 145) rfl)) rfl
theorem tw_146 : Cond.classLink RX10 16 RX1 ∈ TT := tt_of (in_1 (List.mem_of_getElem? (i := 146) rfl)) rfl
theorem tw_147 : Cond.instantiable RX1 12 ∈ TT := tt_of (in_1 (List.mem_of_getElem? (i := 147) rfl)) rfl
theorem tw_148 : Cond.methodLink RX10 18 yX1_init ∈ TT := tt_of (in_1 (List.mem_of_getElem? (i := 148) rfl)) rfl
theorem tw_149 : Cond.instanceMethod yX1_init ∈ TT := tt_of (in_1 (List.mem_of_getElem? (i := 149) rfl)) rfl
theorem tw_150 : Cond.code yX1_init cX1_init 1 none ∈ TT := tt_of (in_1 (List.mem_of_getElem? (i := 150) rfl)) rfl
theorem tw_151 : Cond.methodLink RX1 3 ⟨"java/lang/Object", "<init>", "()V"⟩ ∈ TT := tt_of (in_1 (List.mem_of_getElem? (i := 151) rfl)) rfl
theorem tw_152 : Cond.methodLink RX1 34 yX1_clear ∈ TT := tt_of (in_1 (List.mem_of_getElem? (i := 152) rfl)) rfl
theorem tw_153 : Cond.instanceMethod yX1_clear ∈ TT := tt_of (in_1 (List.mem_of_getElem? (i := 153) rfl)) rfl
theorem tw_154 : Cond.selects RX1 yX1_clear yX1_clear ∈ TT := tt_of (in_1 (List.mem_of_getElem? (i := 154) rfl)) rfl
theorem tw_155 : Cond.code yX1_clear cX1_clear 1 none ∈ TT := tt_of (in_1 (List.mem_of_getElem? (i := 155) rfl)) rfl
theorem tw_156 : Cond.methodLink RX1 53 yJ7_fill_d0a16 ∈ TT := tt_of (in_1 (List.mem_of_getElem? (i := 156) rfl)) rfl
theorem tw_157 : Cond.static yJ7_fill_d0a16 ∈ TT := tt_of (in_1 (List.mem_of_getElem? (i := 157) rfl)) rfl
theorem tw_158 : Cond.code yJ7_fill_d0a16 cJ7_fill_d0a16 5 none ∈ TT := tt_of (in_1 (List.mem_of_getElem? (i := 158) rfl)) rfl
theorem tw_159 : Cond.methodLink RX1 59 yJ7_fill_53178 ∈ TT := tt_of (in_1 (List.mem_of_getElem? (i := 159) rfl)) rfl
theorem tw_160 : Cond.static yJ7_fill_53178 ∈ TT := tt_of (in_1 (List.mem_of_getElem? (i := 160) rfl)) rfl
theorem tw_161 : Cond.code yJ7_fill_53178 cJ7_fill_53178 4 none ∈ TT := tt_of (in_1 (List.mem_of_getElem? (i := 161) rfl)) rfl
theorem tw_162 : Cond.fieldLink RX1 37 "StrangerMarket$County" "persons" "I" ∈ TT := tt_of (in_1 (List.mem_of_getElem? (i := 162) rfl)) rfl
theorem tw_169 : Cond.fieldLink RX1 41 "StrangerMarket$County" "goods" "I" ∈ TT := tt_of (in_1 (List.mem_of_getElem? (i := 169) rfl)) rfl
theorem tw_173 : Cond.fieldLink RX1 11 "StrangerMarket$County" "names" "[J" ∈ TT := tt_of (in_1 (List.mem_of_getElem? (i := 173) rfl)) rfl
theorem tw_176 : Cond.fieldLink RX1 15 "StrangerMarket$County" "coins" "[I" ∈ TT := tt_of (in_1 (List.mem_of_getElem? (i := 176) rfl)) rfl
theorem tw_179 : Cond.fieldLink RX1 19 "StrangerMarket$County" "knows" "[I" ∈ TT := tt_of (in_1 (List.mem_of_getElem? (i := 179) rfl)) rfl
theorem tw_182 : Cond.fieldLink RX1 22 "StrangerMarket$County" "foes" "[I" ∈ TT := tt_of (in_1 (List.mem_of_getElem? (i := 182) rfl)) rfl
theorem tw_187 : Cond.fieldLink RX1 25 "StrangerMarket$County" "stock" "[I" ∈ TT := tt_of (in_1 (List.mem_of_getElem? (i := 187) rfl)) rfl
theorem tw_190 : Cond.fieldLink RX1 28 "StrangerMarket$County" "wants" "[I" ∈ TT := tt_of (in_1 (List.mem_of_getElem? (i := 190) rfl)) rfl
theorem tw_194 : Cond.fieldLink RX1 31 "StrangerMarket$County" "price" "[I" ∈ TT := tt_of (in_1 (List.mem_of_getElem? (i := 194) rfl)) rfl
theorem tw_199 : Cond.fieldLink RX1 44 "StrangerMarket$County" "deals" "I" ∈ TT := tt_of (in_1 (List.mem_of_getElem? (i := 199) rfl)) rfl
theorem tw_204 : Cond.fieldLink RX1 47 "StrangerMarket$County" "veils" "I" ∈ TT := tt_of (in_1 (List.mem_of_getElem? (i := 204) rfl)) rfl
theorem tw_208 : Cond.fieldLink RX1 50 "StrangerMarket$County" "bell" "I" ∈ TT := tt_of (in_1 (List.mem_of_getElem? (i := 208) rfl)) rfl
theorem tw_237 : Cond.classLink RX10 23 RX2 ∈ TT := tt_of (in_1 (List.mem_of_getElem? (i := 237) rfl)) rfl
theorem tw_238 : Cond.instantiable RX2 5 ∈ TT := tt_of (in_1 (List.mem_of_getElem? (i := 238) rfl)) rfl
theorem tw_239 : Cond.methodLink RX10 25 yX2_init ∈ TT := tt_of (in_1 (List.mem_of_getElem? (i := 239) rfl)) rfl
theorem tw_240 : Cond.instanceMethod yX2_init ∈ TT := tt_of (in_2 (List.mem_of_getElem? (i := 0) rfl)) rfl
theorem tw_241 : Cond.code yX2_init cX2_init 2 none ∈ TT := tt_of (in_2 (List.mem_of_getElem? (i := 1) rfl)) rfl
theorem tw_242 : Cond.methodLink RX2 3 ⟨"java/lang/Object", "<init>", "()V"⟩ ∈ TT := tt_of (in_2 (List.mem_of_getElem? (i := 2) rfl)) rfl
theorem tw_243 : Cond.classLink RX2 9 RX1 ∈ TT := tt_of (in_2 (List.mem_of_getElem? (i := 3) rfl)) rfl
theorem tw_244 : Cond.methodLink RX2 11 yX1_init ∈ TT := tt_of (in_2 (List.mem_of_getElem? (i := 4) rfl)) rfl
theorem tw_245 : Cond.fieldLink RX2 18 "StrangerMarket$CountyReader" "tape" "LStrangerMarket$Tape;" ∈ TT := tt_of (in_2 (List.mem_of_getElem? (i := 5) rfl)) rfl
theorem tw_246 : Cond.fieldLink RX2 12 "StrangerMarket$CountyReader" "draft" "LStrangerMarket$County;" ∈ TT := tt_of (in_2 (List.mem_of_getElem? (i := 6) rfl)) rfl
theorem tw_248 : Cond.fieldLink RX2 25 "StrangerMarket$CountyReader" "dealsTold" "Z" ∈ TT := tt_of (in_2 (List.mem_of_getElem? (i := 8) rfl)) rfl
theorem tw_249 : Cond.fieldLink RX2 29 "StrangerMarket$CountyReader" "veilsTold" "Z" ∈ TT := tt_of (in_2 (List.mem_of_getElem? (i := 9) rfl)) rfl
theorem tw_250 : Cond.fieldLink RX2 32 "StrangerMarket$CountyReader" "bellTold" "Z" ∈ TT := tt_of (in_2 (List.mem_of_getElem? (i := 10) rfl)) rfl
theorem tw_262 : Cond.classLink RX10 32 RX4 ∈ TT := tt_of (in_2 (List.mem_of_getElem? (i := 22) rfl)) rfl
theorem tw_263 : Cond.instantiable RX4 13 ∈ TT := tt_of (in_2 (List.mem_of_getElem? (i := 23) rfl)) rfl
theorem tw_264 : Cond.methodLink RX10 34 yX4_init ∈ TT := tt_of (in_2 (List.mem_of_getElem? (i := 24) rfl)) rfl
theorem tw_265 : Cond.instanceMethod yX4_init ∈ TT := tt_of (in_2 (List.mem_of_getElem? (i := 25) rfl)) rfl
theorem tw_266 : Cond.code yX4_init cX4_init 2 none ∈ TT := tt_of (in_2 (List.mem_of_getElem? (i := 26) rfl)) rfl
theorem tw_267 : Cond.methodLink RX4 3 ⟨"java/lang/Object", "<init>", "()V"⟩ ∈ TT := tt_of (in_2 (List.mem_of_getElem? (i := 27) rfl)) rfl
theorem tw_268 : Cond.fieldLink RX4 30 "StrangerMarket$Market" "land" "LStrangerMarket$County;" ∈ TT := tt_of (in_2 (List.mem_of_getElem? (i := 28) rfl)) rfl
theorem tw_269 : Cond.fieldLink RX4 34 "StrangerMarket$Market" "day" "I" ∈ TT := tt_of (in_2 (List.mem_of_getElem? (i := 29) rfl)) rfl
theorem tw_272 : Cond.fieldLink RX4 62 "StrangerMarket$Market" "home" "I" ∈ TT := tt_of (in_2 (List.mem_of_getElem? (i := 32) rfl)) rfl
theorem tw_276 : Cond.fieldLink RX4 65 "StrangerMarket$Market" "veiled" "I" ∈ TT := tt_of (in_2 (List.mem_of_getElem? (i := 36) rfl)) rfl
theorem tw_280 : Cond.fieldLink RX4 68 "StrangerMarket$Market" "veilsLeft" "I" ∈ TT := tt_of (in_2 (List.mem_of_getElem? (i := 40) rfl)) rfl
theorem tw_282 : Cond.fieldLink RX4 38 "StrangerMarket$Market" "bought" "I" ∈ TT := tt_of (in_2 (List.mem_of_getElem? (i := 42) rfl)) rfl
theorem tw_284 : Cond.fieldLink RX4 9 "StrangerMarket$Market" "coins" "[I" ∈ TT := tt_of (in_2 (List.mem_of_getElem? (i := 44) rfl)) rfl
theorem tw_287 : Cond.fieldLink RX4 15 "StrangerMarket$Market" "hunger" "[I" ∈ TT := tt_of (in_2 (List.mem_of_getElem? (i := 47) rfl)) rfl
theorem tw_290 : Cond.fieldLink RX4 18 "StrangerMarket$Market" "met" "[I" ∈ TT := tt_of (in_2 (List.mem_of_getElem? (i := 50) rfl)) rfl
theorem tw_291 : Cond.fieldLink RX4 21 "StrangerMarket$Market" "stock" "[I" ∈ TT := tt_of (in_2 (List.mem_of_getElem? (i := 51) rfl)) rfl
theorem tw_294 : Cond.fieldLink RX4 24 "StrangerMarket$Market" "wants" "[I" ∈ TT := tt_of (in_2 (List.mem_of_getElem? (i := 54) rfl)) rfl
theorem tw_298 : Cond.fieldLink RX4 27 "StrangerMarket$Market" "deals" "[I" ∈ TT := tt_of (in_2 (List.mem_of_getElem? (i := 58) rfl)) rfl
theorem tw_301 : Cond.fieldLink RX4 135 "StrangerMarket$Market" "draws" "I" ∈ TT := tt_of (in_2 (List.mem_of_getElem? (i := 61) rfl)) rfl
theorem tw_330 : Cond.classLink RX10 52 RX9 ∈ TT := tt_of (in_2 (List.mem_of_getElem? (i := 90) rfl)) rfl
theorem tw_331 : Cond.instantiable RX9 8 ∈ TT := tt_of (in_2 (List.mem_of_getElem? (i := 91) rfl)) rfl
theorem tw_332 : Cond.methodLink RX10 54 yX9_init ∈ TT := tt_of (in_2 (List.mem_of_getElem? (i := 92) rfl)) rfl
theorem tw_333 : Cond.instanceMethod yX9_init ∈ TT := tt_of (in_2 (List.mem_of_getElem? (i := 93) rfl)) rfl
theorem tw_334 : Cond.code yX9_init cX9_init 3 none ∈ TT := tt_of (in_2 (List.mem_of_getElem? (i := 94) rfl)) rfl
theorem tw_335 : Cond.methodLink RX9 3 ⟨"java/lang/Object", "<init>", "()V"⟩ ∈ TT := tt_of (in_2 (List.mem_of_getElem? (i := 95) rfl)) rfl
theorem tw_336 : Cond.fieldLink RX9 28 "StrangerMarket$Ties" "land" "LStrangerMarket$County;" ∈ TT := tt_of (in_2 (List.mem_of_getElem? (i := 96) rfl)) rfl
theorem tw_337 : Cond.fieldLink RX9 32 "StrangerMarket$Ties" "market" "LStrangerMarket$Market;" ∈ TT := tt_of (in_2 (List.mem_of_getElem? (i := 97) rfl)) rfl
theorem tw_338 : Cond.fieldLink RX9 9 "StrangerMarket$Ties" "asked" "I" ∈ TT := tt_of (in_2 (List.mem_of_getElem? (i := 98) rfl)) rfl
theorem tw_340 : Cond.fieldLink RX9 15 "StrangerMarket$Ties" "sellers" "I" ∈ TT := tt_of (in_2 (List.mem_of_getElem? (i := 100) rfl)) rfl
theorem tw_342 : Cond.fieldLink RX9 120 "StrangerMarket$Ties" "linkCount" "I" ∈ TT := tt_of (in_2 (List.mem_of_getElem? (i := 102) rfl)) rfl
theorem tw_344 : Cond.fieldLink RX9 18 "StrangerMarket$Ties" "links" "[I" ∈ TT := tt_of (in_2 (List.mem_of_getElem? (i := 104) rfl)) rfl
theorem tw_346 : Cond.fieldLink RX9 22 "StrangerMarket$Ties" "forgotten" "I" ∈ TT := tt_of (in_2 (List.mem_of_getElem? (i := 106) rfl)) rfl
theorem tw_348 : Cond.fieldLink RX9 25 "StrangerMarket$Ties" "within" "[I" ∈ TT := tt_of (in_2 (List.mem_of_getElem? (i := 108) rfl)) rfl
theorem tw_366 : Cond.classLink RX10 61 RX5 ∈ TT := tt_of (in_2 (List.mem_of_getElem? (i := 126) rfl)) rfl
theorem tw_367 : Cond.instantiable RX5 2 ∈ TT := tt_of (in_2 (List.mem_of_getElem? (i := 127) rfl)) rfl
theorem tw_369 : Cond.instanceMethod yX5_init ∈ TT := tt_of (in_2 (List.mem_of_getElem? (i := 129) rfl)) rfl
theorem tw_370 : Cond.code yX5_init cX5_init 1 none ∈ TT := tt_of (in_2 (List.mem_of_getElem? (i := 130) rfl)) rfl
theorem tw_371 : Cond.methodLink RX5 3 ⟨"java/lang/Object", "<init>", "()V"⟩ ∈ TT := tt_of (in_2 (List.mem_of_getElem? (i := 131) rfl)) rfl
theorem tw_372 : Cond.fieldLink RX5 11 "StrangerMarket$Portrait" "signs" "[I" ∈ TT := tt_of (in_2 (List.mem_of_getElem? (i := 132) rfl)) rfl
theorem tw_373 : Cond.fieldLink RX5 15 "StrangerMarket$Portrait" "length" "I" ∈ TT := tt_of (in_2 (List.mem_of_getElem? (i := 133) rfl)) rfl
theorem tw_380 : Cond.classLink RX10 68 RX0 ∈ TT := tt_of (in_2 (List.mem_of_getElem? (i := 140) rfl)) rfl
theorem tw_381 : Cond.instantiable RX0 12 ∈ TT := tt_of (in_2 (List.mem_of_getElem? (i := 141) rfl)) rfl
theorem tw_382 : Cond.methodLink RX10 70 yX0_init ∈ TT := tt_of (in_2 (List.mem_of_getElem? (i := 142) rfl)) rfl
theorem tw_383 : Cond.instanceMethod yX0_init ∈ TT := tt_of (in_2 (List.mem_of_getElem? (i := 143) rfl)) rfl
theorem tw_384 : Cond.code yX0_init cX0_init 3 none ∈ TT := tt_of (in_2 (List.mem_of_getElem? (i := 144) rfl)) rfl
theorem tw_385 : Cond.methodLink RX0 3 ⟨"java/lang/Object", "<init>", "()V"⟩ ∈ TT := tt_of (in_2 (List.mem_of_getElem? (i := 145) rfl)) rfl
theorem tw_386 : Cond.fieldLink RX0 24 "StrangerMarket$Book" "tape" "LStrangerMarket$Tape;" ∈ TT := tt_of (in_2 (List.mem_of_getElem? (i := 146) rfl)) rfl
theorem tw_387 : Cond.fieldLink RX0 28 "StrangerMarket$Book" "land" "LStrangerMarket$County;" ∈ TT := tt_of (in_2 (List.mem_of_getElem? (i := 147) rfl)) rfl
theorem tw_388 : Cond.fieldLink RX0 11 "StrangerMarket$Book" "word" "[I" ∈ TT := tt_of (in_2 (List.mem_of_getElem? (i := 148) rfl)) rfl
theorem tw_389 : Cond.fieldLink RX0 15 "StrangerMarket$Book" "first" "[I" ∈ TT := tt_of (in_2 (List.mem_of_getElem? (i := 149) rfl)) rfl
theorem tw_390 : Cond.fieldLink RX0 18 "StrangerMarket$Book" "second" "[I" ∈ TT := tt_of (in_2 (List.mem_of_getElem? (i := 150) rfl)) rfl
theorem tw_391 : Cond.fieldLink RX0 21 "StrangerMarket$Book" "third" "[I" ∈ TT := tt_of (in_2 (List.mem_of_getElem? (i := 151) rfl)) rfl
theorem tw_392 : Cond.fieldLink RX0 32 "StrangerMarket$Book" "lines" "I" ∈ TT := tt_of (in_2 (List.mem_of_getElem? (i := 152) rfl)) rfl
theorem tw_393 : Cond.fieldLink RX0 81 "StrangerMarket$Book" "judged" "Z" ∈ TT := tt_of (in_2 (List.mem_of_getElem? (i := 153) rfl)) rfl
theorem tw_395 : Cond.fieldLink RX0 85 "StrangerMarket$Book" "why" "I" ∈ TT := tt_of (in_2 (List.mem_of_getElem? (i := 155) rfl)) rfl
theorem tw_397 : Cond.fieldLink RX0 88 "StrangerMarket$Book" "rightLines" "I" ∈ TT := tt_of (in_2 (List.mem_of_getElem? (i := 157) rfl)) rfl
theorem tw_399 : Cond.fieldLink RX0 100 "StrangerMarket$Book" "dayThen" "I" ∈ TT := tt_of (in_2 (List.mem_of_getElem? (i := 159) rfl)) rfl
theorem tw_401 : Cond.fieldLink RX0 107 "StrangerMarket$Book" "fedThen" "I" ∈ TT := tt_of (in_2 (List.mem_of_getElem? (i := 161) rfl)) rfl
theorem tw_428 : Cond.classLink RX10 77 RX6 ∈ TT := tt_of (in_2 (List.mem_of_getElem? (i := 188) rfl)) rfl
theorem tw_429 : Cond.instantiable RX6 6 ∈ TT := tt_of (in_2 (List.mem_of_getElem? (i := 189) rfl)) rfl
theorem tw_431 : Cond.instanceMethod yX6_init ∈ TT := tt_of (in_2 (List.mem_of_getElem? (i := 191) rfl)) rfl
theorem tw_432 : Cond.code yX6_init cX6_init 1 none ∈ TT := tt_of (in_2 (List.mem_of_getElem? (i := 192) rfl)) rfl
theorem tw_433 : Cond.methodLink RX6 3 ⟨"java/lang/Object", "<init>", "()V"⟩ ∈ TT := tt_of (in_2 (List.mem_of_getElem? (i := 193) rfl)) rfl
theorem tw_434 : Cond.fieldLink RX6 24 "StrangerMarket$Sentence" "ones" "I" ∈ TT := tt_of (in_2 (List.mem_of_getElem? (i := 194) rfl)) rfl
theorem tw_437 : Cond.fieldLink RX6 28 "StrangerMarket$Sentence" "steps" "I" ∈ TT := tt_of (in_2 (List.mem_of_getElem? (i := 197) rfl)) rfl
theorem tw_438 : Cond.fieldLink RX6 11 "StrangerMarket$Sentence" "word" "[I" ∈ TT := tt_of (in_2 (List.mem_of_getElem? (i := 198) rfl)) rfl
theorem tw_439 : Cond.fieldLink RX6 15 "StrangerMarket$Sentence" "sign" "[I" ∈ TT := tt_of (in_2 (List.mem_of_getElem? (i := 199) rfl)) rfl
theorem tw_440 : Cond.fieldLink RX6 18 "StrangerMarket$Sentence" "value" "[I" ∈ TT := tt_of (in_2 (List.mem_of_getElem? (i := 200) rfl)) rfl
theorem tw_441 : Cond.fieldLink RX6 21 "StrangerMarket$Sentence" "stack" "[I" ∈ TT := tt_of (in_2 (List.mem_of_getElem? (i := 201) rfl)) rfl
theorem tw_455 : Cond.classLink RX10 84 RX7 ∈ TT := tt_of (in_2 (List.mem_of_getElem? (i := 215) rfl)) rfl
theorem tw_456 : Cond.instantiable RX7 3 ∈ TT := tt_of (in_2 (List.mem_of_getElem? (i := 216) rfl)) rfl
theorem tw_457 : Cond.methodLink RX10 86 yX7_init ∈ TT := tt_of (in_2 (List.mem_of_getElem? (i := 217) rfl)) rfl
theorem tw_458 : Cond.instanceMethod yX7_init ∈ TT := tt_of (in_2 (List.mem_of_getElem? (i := 218) rfl)) rfl
theorem tw_459 : Cond.code yX7_init cX7_init 3 none ∈ TT := tt_of (in_2 (List.mem_of_getElem? (i := 219) rfl)) rfl
theorem tw_460 : Cond.methodLink RX7 3 ⟨"java/lang/Object", "<init>", "()V"⟩ ∈ TT := tt_of (in_2 (List.mem_of_getElem? (i := 220) rfl)) rfl
theorem tw_461 : Cond.classLink RX7 9 RX6 ∈ TT := tt_of (in_2 (List.mem_of_getElem? (i := 221) rfl)) rfl
theorem tw_463 : Cond.fieldLink RX7 18 "StrangerMarket$SentenceReader" "tape" "LStrangerMarket$Tape;" ∈ TT := tt_of (in_2 (List.mem_of_getElem? (i := 223) rfl)) rfl
theorem tw_464 : Cond.fieldLink RX7 22 "StrangerMarket$SentenceReader" "land" "LStrangerMarket$County;" ∈ TT := tt_of (in_2 (List.mem_of_getElem? (i := 224) rfl)) rfl
theorem tw_465 : Cond.fieldLink RX7 12 "StrangerMarket$SentenceReader" "draft" "LStrangerMarket$Sentence;" ∈ TT := tt_of (in_2 (List.mem_of_getElem? (i := 225) rfl)) rfl
theorem tw_474 : Cond.classLink RX10 91 RX3 ∈ TT := tt_of (in_2 (List.mem_of_getElem? (i := 234) rfl)) rfl
theorem tw_475 : Cond.instantiable RX3 4 ∈ TT := tt_of (in_2 (List.mem_of_getElem? (i := 235) rfl)) rfl
theorem tw_477 : Cond.instanceMethod yX3_init ∈ TT := tt_of (in_2 (List.mem_of_getElem? (i := 237) rfl)) rfl
theorem tw_478 : Cond.code yX3_init cX3_init 1 none ∈ TT := tt_of (in_2 (List.mem_of_getElem? (i := 238) rfl)) rfl
theorem tw_479 : Cond.methodLink RX3 1 ⟨"java/lang/Object", "<init>", "()V"⟩ ∈ TT := tt_of (in_2 (List.mem_of_getElem? (i := 239) rfl)) rfl
theorem tw_480 : Cond.classLink RX3 7 RX1 ∈ TT := tt_of (in_3 (List.mem_of_getElem? (i := 0) rfl)) rfl
theorem tw_481 : Cond.methodLink RX3 9 yX1_init ∈ TT := tt_of (in_3 (List.mem_of_getElem? (i := 1) rfl)) rfl
theorem tw_482 : Cond.classLink RX3 16 RX4 ∈ TT := tt_of (in_3 (List.mem_of_getElem? (i := 2) rfl)) rfl
theorem tw_483 : Cond.methodLink RX3 18 yX4_init ∈ TT := tt_of (in_3 (List.mem_of_getElem? (i := 3) rfl)) rfl
theorem tw_484 : Cond.classLink RX3 25 RX6 ∈ TT := tt_of (in_3 (List.mem_of_getElem? (i := 4) rfl)) rfl
theorem tw_487 : Cond.fieldLink RX3 10 "StrangerMarket$Image" "land" "LStrangerMarket$County;" ∈ TT := tt_of (in_3 (List.mem_of_getElem? (i := 7) rfl)) rfl
theorem tw_489 : Cond.fieldLink RX3 21 "StrangerMarket$Image" "market" "LStrangerMarket$Market;" ∈ TT := tt_of (in_3 (List.mem_of_getElem? (i := 9) rfl)) rfl
theorem tw_491 : Cond.fieldLink RX3 28 "StrangerMarket$Image" "claim" "LStrangerMarket$Sentence;" ∈ TT := tt_of (in_3 (List.mem_of_getElem? (i := 11) rfl)) rfl
theorem tw_502 : Cond.methodLink RX10 101 yX4_begin ∈ TT := tt_of (in_3 (List.mem_of_getElem? (i := 22) rfl)) rfl
theorem tw_503 : Cond.instanceMethod yX4_begin ∈ TT := tt_of (in_3 (List.mem_of_getElem? (i := 23) rfl)) rfl
theorem tw_504 : Cond.selects RX4 yX4_begin yX4_begin ∈ TT := tt_of (in_3 (List.mem_of_getElem? (i := 24) rfl)) rfl
theorem tw_505 : Cond.code yX4_begin cX4_begin 1 none ∈ TT := tt_of (in_3 (List.mem_of_getElem? (i := 25) rfl)) rfl
theorem tw_506 : Cond.methodLink RX4 44 ⟨"java/lang/System", "arraycopy", "(Ljava/lang/Object;ILjava/lang/Object;II)V"⟩ ∈ TT := tt_of (in_3 (List.mem_of_getElem? (i := 26) rfl)) rfl
theorem tw_507 : Cond.static ⟨"java/lang/System", "arraycopy", "(Ljava/lang/Object;ILjava/lang/Object;II)V"⟩ ∈ TT := tt_of (in_3 (List.mem_of_getElem? (i := 27) rfl)) rfl
theorem tw_508 : Cond.native ⟨"java/lang/System", "arraycopy", "(Ljava/lang/Object;ILjava/lang/Object;II)V"⟩ ∈ TT := tt_of (in_3 (List.mem_of_getElem? (i := 28) rfl)) rfl
theorem tw_509 : Cond.methodLink RX4 50 yJ7_fill_53178 ∈ TT := tt_of (in_3 (List.mem_of_getElem? (i := 29) rfl)) rfl
theorem tw_510 : Cond.methodLink RX4 56 yX4_forget ∈ TT := tt_of (in_3 (List.mem_of_getElem? (i := 30) rfl)) rfl
theorem tw_512 : Cond.instanceMethod yX4_forget ∈ TT := tt_of (in_3 (List.mem_of_getElem? (i := 32) rfl)) rfl
theorem tw_513 : Cond.code yX4_forget cX4_forget 1 none ∈ TT := tt_of (in_3 (List.mem_of_getElem? (i := 33) rfl)) rfl
theorem tw_514 : Cond.methodLink RX4 59 yX4_dawn ∈ TT := tt_of (in_3 (List.mem_of_getElem? (i := 34) rfl)) rfl
theorem tw_516 : Cond.instanceMethod yX4_dawn ∈ TT := tt_of (in_3 (List.mem_of_getElem? (i := 36) rfl)) rfl
theorem tw_517 : Cond.code yX4_dawn cX4_dawn 1 none ∈ TT := tt_of (in_3 (List.mem_of_getElem? (i := 37) rfl)) rfl
theorem tw_518 : Cond.fieldLink RX10 10 "StrangerMarket" "tape" "LStrangerMarket$Tape;" ∈ TT := tt_of (in_3 (List.mem_of_getElem? (i := 38) rfl)) rfl
theorem tw_519 : Cond.fieldLink RX10 19 "StrangerMarket" "land" "LStrangerMarket$County;" ∈ TT := tt_of (in_3 (List.mem_of_getElem? (i := 39) rfl)) rfl
theorem tw_520 : Cond.fieldLink RX10 28 "StrangerMarket" "countyReader" "LStrangerMarket$CountyReader;" ∈ TT := tt_of (in_3 (List.mem_of_getElem? (i := 40) rfl)) rfl
theorem tw_521 : Cond.fieldLink RX10 37 "StrangerMarket" "market" "LStrangerMarket$Market;" ∈ TT := tt_of (in_3 (List.mem_of_getElem? (i := 41) rfl)) rfl
theorem tw_522 : Cond.fieldLink RX10 41 "StrangerMarket" "trial" "LStrangerMarket$Market;" ∈ TT := tt_of (in_3 (List.mem_of_getElem? (i := 42) rfl)) rfl
theorem tw_523 : Cond.fieldLink RX10 44 "StrangerMarket" "kept" "[LStrangerMarket$Market;" ∈ TT := tt_of (in_3 (List.mem_of_getElem? (i := 43) rfl)) rfl
theorem tw_524 : Cond.fieldLink RX10 48 "StrangerMarket" "keptCount" "I" ∈ TT := tt_of (in_3 (List.mem_of_getElem? (i := 44) rfl)) rfl
theorem tw_525 : Cond.fieldLink RX10 57 "StrangerMarket" "ties" "LStrangerMarket$Ties;" ∈ TT := tt_of (in_3 (List.mem_of_getElem? (i := 45) rfl)) rfl
theorem tw_526 : Cond.fieldLink RX10 64 "StrangerMarket" "portrait" "LStrangerMarket$Portrait;" ∈ TT := tt_of (in_3 (List.mem_of_getElem? (i := 46) rfl)) rfl
theorem tw_527 : Cond.fieldLink RX10 73 "StrangerMarket" "ledger" "LStrangerMarket$Book;" ∈ TT := tt_of (in_3 (List.mem_of_getElem? (i := 47) rfl)) rfl
theorem tw_528 : Cond.fieldLink RX10 80 "StrangerMarket" "claim" "LStrangerMarket$Sentence;" ∈ TT := tt_of (in_3 (List.mem_of_getElem? (i := 48) rfl)) rfl
theorem tw_529 : Cond.fieldLink RX10 87 "StrangerMarket" "sentenceReader" "LStrangerMarket$SentenceReader;" ∈ TT := tt_of (in_3 (List.mem_of_getElem? (i := 49) rfl)) rfl
theorem tw_530 : Cond.fieldLink RX10 94 "StrangerMarket" "firstImage" "LStrangerMarket$Image;" ∈ TT := tt_of (in_3 (List.mem_of_getElem? (i := 50) rfl)) rfl
theorem tw_531 : Cond.fieldLink RX10 98 "StrangerMarket" "secondImage" "LStrangerMarket$Image;" ∈ TT := tt_of (in_3 (List.mem_of_getElem? (i := 51) rfl)) rfl
theorem tw_561 : Cond.methodLink RL 19 yX10_feed ∈ TT := tt_of (in_3 (List.mem_of_getElem? (i := 81) rfl)) rfl
theorem tw_562 : Cond.instanceMethod yX10_feed ∈ TT := tt_of (in_3 (List.mem_of_getElem? (i := 82) rfl)) rfl
theorem tw_563 : Cond.selects RX10 yX10_feed yX10_feed ∈ TT := tt_of (in_3 (List.mem_of_getElem? (i := 83) rfl)) rfl
theorem tw_564 : Cond.code yX10_feed cX10_feed 6 (some .int) ∈ TT := tt_of (in_3 (List.mem_of_getElem? (i := 84) rfl)) rfl
theorem tw_565 : Cond.methodLink RX10 104 yX8_hasRoomForFeed ∈ TT := tt_of (in_3 (List.mem_of_getElem? (i := 85) rfl)) rfl
theorem tw_566 : Cond.instanceMethod yX8_hasRoomForFeed ∈ TT := tt_of (in_3 (List.mem_of_getElem? (i := 86) rfl)) rfl
theorem tw_567 : Cond.selects RX8 yX8_hasRoomForFeed yX8_hasRoomForFeed ∈ TT := tt_of (in_3 (List.mem_of_getElem? (i := 87) rfl)) rfl
theorem tw_568 : Cond.code yX8_hasRoomForFeed cX8_hasRoomForFeed 1 (some .boolean) ∈ TT := tt_of (in_3 (List.mem_of_getElem? (i := 88) rfl)) rfl
theorem tw_569 : Cond.methodLink RX10 108 yX8_append ∈ TT := tt_of (in_3 (List.mem_of_getElem? (i := 89) rfl)) rfl
theorem tw_570 : Cond.instanceMethod yX8_append ∈ TT := tt_of (in_3 (List.mem_of_getElem? (i := 90) rfl)) rfl
theorem tw_571 : Cond.selects RX8 yX8_append yX8_append ∈ TT := tt_of (in_3 (List.mem_of_getElem? (i := 91) rfl)) rfl
theorem tw_572 : Cond.code yX8_append cX8_append 3 none ∈ TT := tt_of (in_3 (List.mem_of_getElem? (i := 92) rfl)) rfl
theorem tw_573 : Cond.methodLink RL 24 yX10_end ∈ TT := tt_of (in_3 (List.mem_of_getElem? (i := 93) rfl)) rfl
theorem tw_574 : Cond.instanceMethod yX10_end ∈ TT := tt_of (in_3 (List.mem_of_getElem? (i := 94) rfl)) rfl
theorem tw_575 : Cond.selects RX10 yX10_end yX10_end ∈ TT := tt_of (in_3 (List.mem_of_getElem? (i := 95) rfl)) rfl
theorem tw_576 : Cond.code yX10_end cX10_end 2 (some .boolean) ∈ TT := tt_of (in_3 (List.mem_of_getElem? (i := 96) rfl)) rfl
theorem tw_577 : Cond.methodLink RL 29 yX10_county ∈ TT := tt_of (in_3 (List.mem_of_getElem? (i := 97) rfl)) rfl
theorem tw_578 : Cond.instanceMethod yX10_county ∈ TT := tt_of (in_3 (List.mem_of_getElem? (i := 98) rfl)) rfl
theorem tw_579 : Cond.selects RX10 yX10_county yX10_county ∈ TT := tt_of (in_3 (List.mem_of_getElem? (i := 99) rfl)) rfl
theorem tw_580 : Cond.code yX10_county cX10_county 2 (some .int) ∈ TT := tt_of (in_3 (List.mem_of_getElem? (i := 100) rfl)) rfl
theorem tw_581 : Cond.methodLink RX10 115 yX2_readText ∈ TT := tt_of (in_3 (List.mem_of_getElem? (i := 101) rfl)) rfl
theorem tw_582 : Cond.instanceMethod yX2_readText ∈ TT := tt_of (in_3 (List.mem_of_getElem? (i := 102) rfl)) rfl
theorem tw_583 : Cond.selects RX2 yX2_readText yX2_readText ∈ TT := tt_of (in_3 (List.mem_of_getElem? (i := 103) rfl)) rfl
theorem tw_584 : Cond.code yX2_readText cX2_readText 2 (some .int) ∈ TT := tt_of (in_3 (List.mem_of_getElem? (i := 104) rfl)) rfl
theorem tw_585 : Cond.methodLink RX2 22 yX1_clear ∈ TT := tt_of (in_3 (List.mem_of_getElem? (i := 105) rfl)) rfl
theorem tw_586 : Cond.methodLink RX2 35 yX8_open ∈ TT := tt_of (in_3 (List.mem_of_getElem? (i := 106) rfl)) rfl
theorem tw_587 : Cond.instanceMethod yX8_open ∈ TT := tt_of (in_3 (List.mem_of_getElem? (i := 107) rfl)) rfl
theorem tw_588 : Cond.selects RX8 yX8_open yX8_open ∈ TT := tt_of (in_3 (List.mem_of_getElem? (i := 108) rfl)) rfl
theorem tw_589 : Cond.code yX8_open cX8_open 2 none ∈ TT := tt_of (in_3 (List.mem_of_getElem? (i := 109) rfl)) rfl
theorem tw_590 : Cond.methodLink RX8 38 yJ9_min_7cf53 ∈ TT := tt_of (in_3 (List.mem_of_getElem? (i := 110) rfl)) rfl
theorem tw_591 : Cond.static yJ9_min_7cf53 ∈ TT := tt_of (in_3 (List.mem_of_getElem? (i := 111) rfl)) rfl
theorem tw_592 : Cond.code yJ9_min_7cf53 cJ9_min_7cf53 2 (some .int) ∈ TT := tt_of (in_3 (List.mem_of_getElem? (i := 112) rfl)) rfl
theorem tw_593 : Cond.methodLink RX8 60 yX8_next ∈ TT := tt_of (in_3 (List.mem_of_getElem? (i := 113) rfl)) rfl
theorem tw_594 : Cond.instanceMethod yX8_next ∈ TT := tt_of (in_3 (List.mem_of_getElem? (i := 114) rfl)) rfl
theorem tw_595 : Cond.selects RX8 yX8_next yX8_next ∈ TT := tt_of (in_3 (List.mem_of_getElem? (i := 115) rfl)) rfl
theorem tw_596 : Cond.code yX8_next cX8_next 1 none ∈ TT := tt_of (in_3 (List.mem_of_getElem? (i := 116) rfl)) rfl
theorem tw_597 : Cond.methodLink RX8 75 yX8_readRun ∈ TT := tt_of (in_3 (List.mem_of_getElem? (i := 117) rfl)) rfl
theorem tw_599 : Cond.instanceMethod yX8_readRun ∈ TT := tt_of (in_3 (List.mem_of_getElem? (i := 119) rfl)) rfl
theorem tw_600 : Cond.code yX8_readRun cX8_readRun 3 none ∈ TT := tt_of (in_3 (List.mem_of_getElem? (i := 120) rfl)) rfl
theorem tw_601 : Cond.methodLink RX8 78 yX8_readSign ∈ TT := tt_of (in_3 (List.mem_of_getElem? (i := 121) rfl)) rfl
theorem tw_603 : Cond.instanceMethod yX8_readSign ∈ TT := tt_of (in_3 (List.mem_of_getElem? (i := 123) rfl)) rfl
theorem tw_604 : Cond.code yX8_readSign cX8_readSign 3 none ∈ TT := tt_of (in_3 (List.mem_of_getElem? (i := 124) rfl)) rfl
theorem tw_605 : Cond.methodLink RX8 86 yX8_placeInWords ∈ TT := tt_of (in_3 (List.mem_of_getElem? (i := 125) rfl)) rfl
theorem tw_607 : Cond.instanceMethod yX8_placeInWords ∈ TT := tt_of (in_3 (List.mem_of_getElem? (i := 127) rfl)) rfl
theorem tw_608 : Cond.code yX8_placeInWords cX8_placeInWords 4 (some .int) ∈ TT := tt_of (in_3 (List.mem_of_getElem? (i := 128) rfl)) rfl
theorem tw_609 : Cond.methodLink RX2 41 yX8_isAtEnd ∈ TT := tt_of (in_3 (List.mem_of_getElem? (i := 129) rfl)) rfl
theorem tw_610 : Cond.instanceMethod yX8_isAtEnd ∈ TT := tt_of (in_3 (List.mem_of_getElem? (i := 130) rfl)) rfl
theorem tw_611 : Cond.selects RX8 yX8_isAtEnd yX8_isAtEnd ∈ TT := tt_of (in_3 (List.mem_of_getElem? (i := 131) rfl)) rfl
theorem tw_612 : Cond.code yX8_isAtEnd cX8_isAtEnd 1 (some .boolean) ∈ TT := tt_of (in_3 (List.mem_of_getElem? (i := 132) rfl)) rfl
theorem tw_613 : Cond.methodLink RX2 45 yX2_readLine ∈ TT := tt_of (in_3 (List.mem_of_getElem? (i := 133) rfl)) rfl
theorem tw_615 : Cond.instanceMethod yX2_readLine ∈ TT := tt_of (in_3 (List.mem_of_getElem? (i := 135) rfl)) rfl
theorem tw_616 : Cond.code yX2_readLine cX2_readLine 1 (some .boolean) ∈ TT := tt_of (in_3 (List.mem_of_getElem? (i := 136) rfl)) rfl
theorem tw_617 : Cond.methodLink RX2 59 yX2_readPerson ∈ TT := tt_of (in_3 (List.mem_of_getElem? (i := 137) rfl)) rfl
theorem tw_619 : Cond.instanceMethod yX2_readPerson ∈ TT := tt_of (in_3 (List.mem_of_getElem? (i := 139) rfl)) rfl
theorem tw_620 : Cond.code yX2_readPerson cX2_readPerson 2 (some .boolean) ∈ TT := tt_of (in_3 (List.mem_of_getElem? (i := 140) rfl)) rfl
theorem tw_621 : Cond.methodLink RX2 91 yX8_refuse ∈ TT := tt_of (in_3 (List.mem_of_getElem? (i := 141) rfl)) rfl
theorem tw_622 : Cond.instanceMethod yX8_refuse ∈ TT := tt_of (in_3 (List.mem_of_getElem? (i := 142) rfl)) rfl
theorem tw_623 : Cond.selects RX8 yX8_refuse yX8_refuse ∈ TT := tt_of (in_3 (List.mem_of_getElem? (i := 143) rfl)) rfl
theorem tw_624 : Cond.code yX8_refuse cX8_refuse 2 (some .boolean) ∈ TT := tt_of (in_3 (List.mem_of_getElem? (i := 144) rfl)) rfl
theorem tw_625 : Cond.methodLink RX2 97 yX8_next ∈ TT := tt_of (in_3 (List.mem_of_getElem? (i := 145) rfl)) rfl
theorem tw_626 : Cond.methodLink RX2 100 yX2_passNewName ∈ TT := tt_of (in_3 (List.mem_of_getElem? (i := 146) rfl)) rfl
theorem tw_628 : Cond.instanceMethod yX2_passNewName ∈ TT := tt_of (in_3 (List.mem_of_getElem? (i := 148) rfl)) rfl
theorem tw_629 : Cond.code yX2_passNewName cX2_passNewName 2 (some .boolean) ∈ TT := tt_of (in_3 (List.mem_of_getElem? (i := 149) rfl)) rfl
theorem tw_630 : Cond.methodLink RX2 113 yX8_isName ∈ TT := tt_of (in_3 (List.mem_of_getElem? (i := 150) rfl)) rfl
theorem tw_631 : Cond.instanceMethod yX8_isName ∈ TT := tt_of (in_3 (List.mem_of_getElem? (i := 151) rfl)) rfl
theorem tw_632 : Cond.selects RX8 yX8_isName yX8_isName ∈ TT := tt_of (in_3 (List.mem_of_getElem? (i := 152) rfl)) rfl
theorem tw_633 : Cond.code yX8_isName cX8_isName 1 (some .boolean) ∈ TT := tt_of (in_3 (List.mem_of_getElem? (i := 153) rfl)) rfl
theorem tw_634 : Cond.methodLink RX2 120 yX1_slotOf ∈ TT := tt_of (in_3 (List.mem_of_getElem? (i := 154) rfl)) rfl
theorem tw_635 : Cond.instanceMethod yX1_slotOf ∈ TT := tt_of (in_3 (List.mem_of_getElem? (i := 155) rfl)) rfl
theorem tw_636 : Cond.selects RX1 yX1_slotOf yX1_slotOf ∈ TT := tt_of (in_3 (List.mem_of_getElem? (i := 156) rfl)) rfl
theorem tw_637 : Cond.code yX1_slotOf cX1_slotOf 4 (some .int) ∈ TT := tt_of (in_3 (List.mem_of_getElem? (i := 157) rfl)) rfl
theorem tw_638 : Cond.methodLink RX2 103 yX8_passNumber ∈ TT := tt_of (in_3 (List.mem_of_getElem? (i := 158) rfl)) rfl
theorem tw_639 : Cond.instanceMethod yX8_passNumber ∈ TT := tt_of (in_3 (List.mem_of_getElem? (i := 159) rfl)) rfl
theorem tw_640 : Cond.selects RX8 yX8_passNumber yX8_passNumber ∈ TT := tt_of (in_3 (List.mem_of_getElem? (i := 160) rfl)) rfl
theorem tw_641 : Cond.code yX8_passNumber cX8_passNumber 4 (some .int) ∈ TT := tt_of (in_3 (List.mem_of_getElem? (i := 161) rfl)) rfl
theorem tw_642 : Cond.methodLink RX8 93 yX8_refuse ∈ TT := tt_of (in_3 (List.mem_of_getElem? (i := 162) rfl)) rfl
theorem tw_643 : Cond.methodLink RX2 62 yX2_readGood ∈ TT := tt_of (in_3 (List.mem_of_getElem? (i := 163) rfl)) rfl
theorem tw_645 : Cond.instanceMethod yX2_readGood ∈ TT := tt_of (in_3 (List.mem_of_getElem? (i := 165) rfl)) rfl
theorem tw_646 : Cond.code yX2_readGood cX2_readGood 1 (some .boolean) ∈ TT := tt_of (in_3 (List.mem_of_getElem? (i := 166) rfl)) rfl
theorem tw_647 : Cond.methodLink RX2 65 yX2_readSells ∈ TT := tt_of (in_3 (List.mem_of_getElem? (i := 167) rfl)) rfl
theorem tw_649 : Cond.instanceMethod yX2_readSells ∈ TT := tt_of (in_3 (List.mem_of_getElem? (i := 169) rfl)) rfl
theorem tw_650 : Cond.code yX2_readSells cX2_readSells 3 (some .boolean) ∈ TT := tt_of (in_3 (List.mem_of_getElem? (i := 170) rfl)) rfl
theorem tw_651 : Cond.methodLink RX2 128 yX2_passNewCell ∈ TT := tt_of (in_3 (List.mem_of_getElem? (i := 171) rfl)) rfl
theorem tw_653 : Cond.instanceMethod yX2_passNewCell ∈ TT := tt_of (in_3 (List.mem_of_getElem? (i := 173) rfl)) rfl
theorem tw_654 : Cond.code yX2_passNewCell cX2_passNewCell 3 (some .int) ∈ TT := tt_of (in_3 (List.mem_of_getElem? (i := 174) rfl)) rfl
theorem tw_655 : Cond.methodLink RX2 141 yX8_passPerson ∈ TT := tt_of (in_3 (List.mem_of_getElem? (i := 175) rfl)) rfl
theorem tw_656 : Cond.instanceMethod yX8_passPerson ∈ TT := tt_of (in_3 (List.mem_of_getElem? (i := 176) rfl)) rfl
theorem tw_657 : Cond.selects RX8 yX8_passPerson yX8_passPerson ∈ TT := tt_of (in_3 (List.mem_of_getElem? (i := 177) rfl)) rfl
theorem tw_658 : Cond.code yX8_passPerson cX8_passPerson 3 (some .int) ∈ TT := tt_of (in_3 (List.mem_of_getElem? (i := 178) rfl)) rfl
theorem tw_659 : Cond.methodLink RX8 106 yX8_personHere ∈ TT := tt_of (in_3 (List.mem_of_getElem? (i := 179) rfl)) rfl
theorem tw_660 : Cond.instanceMethod yX8_personHere ∈ TT := tt_of (in_3 (List.mem_of_getElem? (i := 180) rfl)) rfl
theorem tw_661 : Cond.selects RX8 yX8_personHere yX8_personHere ∈ TT := tt_of (in_3 (List.mem_of_getElem? (i := 181) rfl)) rfl
theorem tw_662 : Cond.code yX8_personHere cX8_personHere 3 (some .int) ∈ TT := tt_of (in_3 (List.mem_of_getElem? (i := 182) rfl)) rfl
theorem tw_663 : Cond.methodLink RX8 97 yX8_isName ∈ TT := tt_of (in_3 (List.mem_of_getElem? (i := 183) rfl)) rfl
theorem tw_664 : Cond.methodLink RX8 101 yX1_slotOf ∈ TT := tt_of (in_3 (List.mem_of_getElem? (i := 184) rfl)) rfl
theorem tw_665 : Cond.methodLink RX2 145 yX8_goodHere ∈ TT := tt_of (in_3 (List.mem_of_getElem? (i := 185) rfl)) rfl
theorem tw_666 : Cond.instanceMethod yX8_goodHere ∈ TT := tt_of (in_3 (List.mem_of_getElem? (i := 186) rfl)) rfl
theorem tw_667 : Cond.selects RX8 yX8_goodHere yX8_goodHere ∈ TT := tt_of (in_3 (List.mem_of_getElem? (i := 187) rfl)) rfl
theorem tw_668 : Cond.code yX8_goodHere cX8_goodHere 3 (some .int) ∈ TT := tt_of (in_3 (List.mem_of_getElem? (i := 188) rfl)) rfl
theorem tw_669 : Cond.methodLink RX2 148 yX1_sellsOrWants ∈ TT := tt_of (in_3 (List.mem_of_getElem? (i := 189) rfl)) rfl
theorem tw_670 : Cond.instanceMethod yX1_sellsOrWants ∈ TT := tt_of (in_3 (List.mem_of_getElem? (i := 190) rfl)) rfl
theorem tw_671 : Cond.selects RX1 yX1_sellsOrWants yX1_sellsOrWants ∈ TT := tt_of (in_3 (List.mem_of_getElem? (i := 191) rfl)) rfl
theorem tw_672 : Cond.code yX1_sellsOrWants cX1_sellsOrWants 4 (some .boolean) ∈ TT := tt_of (in_3 (List.mem_of_getElem? (i := 192) rfl)) rfl
theorem tw_674 : Cond.static yX10_cellOf ∈ TT := tt_of (in_3 (List.mem_of_getElem? (i := 194) rfl)) rfl
theorem tw_675 : Cond.code yX10_cellOf cX10_cellOf 2 (some .int) ∈ TT := tt_of (in_3 (List.mem_of_getElem? (i := 195) rfl)) rfl
theorem tw_677 : Cond.methodLink RX2 68 yX2_readWants ∈ TT := tt_of (in_3 (List.mem_of_getElem? (i := 197) rfl)) rfl
theorem tw_679 : Cond.instanceMethod yX2_readWants ∈ TT := tt_of (in_3 (List.mem_of_getElem? (i := 199) rfl)) rfl
theorem tw_680 : Cond.code yX2_readWants cX2_readWants 3 (some .boolean) ∈ TT := tt_of (in_3 (List.mem_of_getElem? (i := 200) rfl)) rfl
theorem tw_681 : Cond.methodLink RX2 75 yX2_readPair ∈ TT := tt_of (in_3 (List.mem_of_getElem? (i := 201) rfl)) rfl
theorem tw_683 : Cond.instanceMethod yX2_readPair ∈ TT := tt_of (in_3 (List.mem_of_getElem? (i := 203) rfl)) rfl
theorem tw_684 : Cond.code yX2_readPair cX2_readPair 4 (some .boolean) ∈ TT := tt_of (in_3 (List.mem_of_getElem? (i := 204) rfl)) rfl
theorem tw_685 : Cond.methodLink RX2 155 yX8_personHere ∈ TT := tt_of (in_3 (List.mem_of_getElem? (i := 205) rfl)) rfl
theorem tw_687 : Cond.static yX10_has ∈ TT := tt_of (in_3 (List.mem_of_getElem? (i := 207) rfl)) rfl
theorem tw_688 : Cond.code yX10_has cX10_has 2 (some .boolean) ∈ TT := tt_of (in_3 (List.mem_of_getElem? (i := 208) rfl)) rfl
theorem tw_689 : Cond.methodLink RX2 82 yX2_readDeals ∈ TT := tt_of (in_3 (List.mem_of_getElem? (i := 209) rfl)) rfl
theorem tw_691 : Cond.instanceMethod yX2_readDeals ∈ TT := tt_of (in_3 (List.mem_of_getElem? (i := 211) rfl)) rfl
theorem tw_692 : Cond.code yX2_readDeals cX2_readDeals 1 (some .boolean) ∈ TT := tt_of (in_3 (List.mem_of_getElem? (i := 212) rfl)) rfl
theorem tw_693 : Cond.methodLink RX2 85 yX2_readVeils ∈ TT := tt_of (in_3 (List.mem_of_getElem? (i := 213) rfl)) rfl
theorem tw_695 : Cond.instanceMethod yX2_readVeils ∈ TT := tt_of (in_3 (List.mem_of_getElem? (i := 215) rfl)) rfl
theorem tw_696 : Cond.code yX2_readVeils cX2_readVeils 1 (some .boolean) ∈ TT := tt_of (in_3 (List.mem_of_getElem? (i := 216) rfl)) rfl
theorem tw_697 : Cond.methodLink RX2 88 yX2_readBell ∈ TT := tt_of (in_3 (List.mem_of_getElem? (i := 217) rfl)) rfl
theorem tw_699 : Cond.instanceMethod yX2_readBell ∈ TT := tt_of (in_3 (List.mem_of_getElem? (i := 219) rfl)) rfl
theorem tw_700 : Cond.code yX2_readBell cX2_readBell 1 (some .boolean) ∈ TT := tt_of (in_3 (List.mem_of_getElem? (i := 220) rfl)) rfl
theorem tw_701 : Cond.methodLink RX2 48 yX8_passSign ∈ TT := tt_of (in_3 (List.mem_of_getElem? (i := 221) rfl)) rfl
theorem tw_702 : Cond.instanceMethod yX8_passSign ∈ TT := tt_of (in_3 (List.mem_of_getElem? (i := 222) rfl)) rfl
theorem tw_703 : Cond.selects RX8 yX8_passSign yX8_passSign ∈ TT := tt_of (in_3 (List.mem_of_getElem? (i := 223) rfl)) rfl
theorem tw_704 : Cond.code yX8_passSign cX8_passSign 2 (some .boolean) ∈ TT := tt_of (in_3 (List.mem_of_getElem? (i := 224) rfl)) rfl
theorem tw_705 : Cond.methodLink RX2 52 yX8_passEnd ∈ TT := tt_of (in_3 (List.mem_of_getElem? (i := 225) rfl)) rfl
theorem tw_706 : Cond.instanceMethod yX8_passEnd ∈ TT := tt_of (in_3 (List.mem_of_getElem? (i := 226) rfl)) rfl
theorem tw_707 : Cond.selects RX8 yX8_passEnd yX8_passEnd ∈ TT := tt_of (in_3 (List.mem_of_getElem? (i := 227) rfl)) rfl
theorem tw_708 : Cond.code yX8_passEnd cX8_passEnd 1 (some .boolean) ∈ TT := tt_of (in_3 (List.mem_of_getElem? (i := 228) rfl)) rfl
theorem tw_709 : Cond.methodLink RX10 125 yX1_copyFrom ∈ TT := tt_of (in_3 (List.mem_of_getElem? (i := 229) rfl)) rfl
theorem tw_710 : Cond.instanceMethod yX1_copyFrom ∈ TT := tt_of (in_3 (List.mem_of_getElem? (i := 230) rfl)) rfl
theorem tw_711 : Cond.selects RX1 yX1_copyFrom yX1_copyFrom ∈ TT := tt_of (in_3 (List.mem_of_getElem? (i := 231) rfl)) rfl
theorem tw_712 : Cond.code yX1_copyFrom cX1_copyFrom 2 none ∈ TT := tt_of (in_3 (List.mem_of_getElem? (i := 232) rfl)) rfl
theorem tw_713 : Cond.methodLink RX1 62 ⟨"java/lang/System", "arraycopy", "(Ljava/lang/Object;ILjava/lang/Object;II)V"⟩ ∈ TT := tt_of (in_3 (List.mem_of_getElem? (i := 233) rfl)) rfl
theorem tw_714 : Cond.methodLink RX10 128 yX6_clear ∈ TT := tt_of (in_3 (List.mem_of_getElem? (i := 234) rfl)) rfl
theorem tw_715 : Cond.instanceMethod yX6_clear ∈ TT := tt_of (in_3 (List.mem_of_getElem? (i := 235) rfl)) rfl
theorem tw_716 : Cond.selects RX6 yX6_clear yX6_clear ∈ TT := tt_of (in_3 (List.mem_of_getElem? (i := 236) rfl)) rfl
theorem tw_717 : Cond.code yX6_clear cX6_clear 1 none ∈ TT := tt_of (in_3 (List.mem_of_getElem? (i := 237) rfl)) rfl
theorem tw_718 : Cond.methodLink RL 34 yX10_fault ∈ TT := tt_of (in_3 (List.mem_of_getElem? (i := 238) rfl)) rfl
theorem tw_719 : Cond.instanceMethod yX10_fault ∈ TT := tt_of (in_3 (List.mem_of_getElem? (i := 239) rfl)) rfl
theorem tw_720 : Cond.selects RX10 yX10_fault yX10_fault ∈ TT := tt_of (in_4 (List.mem_of_getElem? (i := 0) rfl)) rfl
theorem tw_721 : Cond.code yX10_fault cX10_fault 1 (some .int) ∈ TT := tt_of (in_4 (List.mem_of_getElem? (i := 1) rfl)) rfl
theorem tw_722 : Cond.methodLink RL 47 yX10_good ∈ TT := tt_of (in_4 (List.mem_of_getElem? (i := 2) rfl)) rfl
theorem tw_723 : Cond.instanceMethod yX10_good ∈ TT := tt_of (in_4 (List.mem_of_getElem? (i := 3) rfl)) rfl
theorem tw_724 : Cond.selects RX10 yX10_good yX10_good ∈ TT := tt_of (in_4 (List.mem_of_getElem? (i := 4) rfl)) rfl
theorem tw_725 : Cond.code yX10_good cX10_good 5 (some .int) ∈ TT := tt_of (in_4 (List.mem_of_getElem? (i := 5) rfl)) rfl
theorem tw_726 : Cond.methodLink RX10 134 yX1_isPerson ∈ TT := tt_of (in_4 (List.mem_of_getElem? (i := 6) rfl)) rfl
theorem tw_727 : Cond.instanceMethod yX1_isPerson ∈ TT := tt_of (in_4 (List.mem_of_getElem? (i := 7) rfl)) rfl
theorem tw_728 : Cond.selects RX1 yX1_isPerson yX1_isPerson ∈ TT := tt_of (in_4 (List.mem_of_getElem? (i := 8) rfl)) rfl
theorem tw_729 : Cond.code yX1_isPerson cX1_isPerson 2 (some .boolean) ∈ TT := tt_of (in_4 (List.mem_of_getElem? (i := 9) rfl)) rfl
theorem tw_730 : Cond.methodLink RX10 167 yX1_isGood ∈ TT := tt_of (in_4 (List.mem_of_getElem? (i := 10) rfl)) rfl
theorem tw_731 : Cond.instanceMethod yX1_isGood ∈ TT := tt_of (in_4 (List.mem_of_getElem? (i := 11) rfl)) rfl
theorem tw_732 : Cond.selects RX1 yX1_isGood yX1_isGood ∈ TT := tt_of (in_4 (List.mem_of_getElem? (i := 12) rfl)) rfl
theorem tw_733 : Cond.code yX1_isGood cX1_isGood 2 (some .boolean) ∈ TT := tt_of (in_4 (List.mem_of_getElem? (i := 13) rfl)) rfl
theorem tw_734 : Cond.methodLink RX10 170 yX10_cellOf ∈ TT := tt_of (in_4 (List.mem_of_getElem? (i := 14) rfl)) rfl
theorem tw_735 : Cond.methodLink RL 52 yX10_deals ∈ TT := tt_of (in_4 (List.mem_of_getElem? (i := 15) rfl)) rfl
theorem tw_736 : Cond.instanceMethod yX10_deals ∈ TT := tt_of (in_4 (List.mem_of_getElem? (i := 16) rfl)) rfl
theorem tw_737 : Cond.selects RX10 yX10_deals yX10_deals ∈ TT := tt_of (in_4 (List.mem_of_getElem? (i := 17) rfl)) rfl
theorem tw_738 : Cond.code yX10_deals cX10_deals 3 (some .int) ∈ TT := tt_of (in_4 (List.mem_of_getElem? (i := 18) rfl)) rfl
theorem tw_739 : Cond.methodLink RX10 183 yX10_areTwo ∈ TT := tt_of (in_4 (List.mem_of_getElem? (i := 19) rfl)) rfl
theorem tw_741 : Cond.instanceMethod yX10_areTwo ∈ TT := tt_of (in_4 (List.mem_of_getElem? (i := 21) rfl)) rfl
theorem tw_742 : Cond.code yX10_areTwo cX10_areTwo 3 (some .boolean) ∈ TT := tt_of (in_4 (List.mem_of_getElem? (i := 22) rfl)) rfl
theorem tw_743 : Cond.methodLink RX10 190 yX10_pairOf ∈ TT := tt_of (in_4 (List.mem_of_getElem? (i := 23) rfl)) rfl
theorem tw_744 : Cond.static yX10_pairOf ∈ TT := tt_of (in_4 (List.mem_of_getElem? (i := 24) rfl)) rfl
theorem tw_745 : Cond.code yX10_pairOf cX10_pairOf 2 (some .int) ∈ TT := tt_of (in_4 (List.mem_of_getElem? (i := 25) rfl)) rfl
theorem tw_746 : Cond.methodLink RL 56 yX10_now ∈ TT := tt_of (in_4 (List.mem_of_getElem? (i := 26) rfl)) rfl
theorem tw_747 : Cond.instanceMethod yX10_now ∈ TT := tt_of (in_4 (List.mem_of_getElem? (i := 27) rfl)) rfl
theorem tw_748 : Cond.selects RX10 yX10_now yX10_now ∈ TT := tt_of (in_4 (List.mem_of_getElem? (i := 28) rfl)) rfl
theorem tw_749 : Cond.code yX10_now cX10_now 2 (some .int) ∈ TT := tt_of (in_4 (List.mem_of_getElem? (i := 29) rfl)) rfl
theorem tw_750 : Cond.methodLink RX10 196 yX4_fed ∈ TT := tt_of (in_4 (List.mem_of_getElem? (i := 30) rfl)) rfl
theorem tw_751 : Cond.instanceMethod yX4_fed ∈ TT := tt_of (in_4 (List.mem_of_getElem? (i := 31) rfl)) rfl
theorem tw_752 : Cond.selects RX4 yX4_fed yX4_fed ∈ TT := tt_of (in_4 (List.mem_of_getElem? (i := 32) rfl)) rfl
theorem tw_753 : Cond.code yX4_fed cX4_fed 3 (some .int) ∈ TT := tt_of (in_4 (List.mem_of_getElem? (i := 33) rfl)) rfl
theorem tw_754 : Cond.methodLink RX4 100 yX4_wanting ∈ TT := tt_of (in_4 (List.mem_of_getElem? (i := 34) rfl)) rfl
theorem tw_755 : Cond.instanceMethod yX4_wanting ∈ TT := tt_of (in_4 (List.mem_of_getElem? (i := 35) rfl)) rfl
theorem tw_756 : Cond.selects RX4 yX4_wanting yX4_wanting ∈ TT := tt_of (in_4 (List.mem_of_getElem? (i := 36) rfl)) rfl
theorem tw_757 : Cond.code yX4_wanting cX4_wanting 4 (some .int) ∈ TT := tt_of (in_4 (List.mem_of_getElem? (i := 37) rfl)) rfl
theorem tw_759 : Cond.methodLink RX10 205 yX4_pairsMet ∈ TT := tt_of (in_4 (List.mem_of_getElem? (i := 39) rfl)) rfl
theorem tw_760 : Cond.instanceMethod yX4_pairsMet ∈ TT := tt_of (in_4 (List.mem_of_getElem? (i := 40) rfl)) rfl
theorem tw_761 : Cond.selects RX4 yX4_pairsMet yX4_pairsMet ∈ TT := tt_of (in_4 (List.mem_of_getElem? (i := 41) rfl)) rfl
theorem tw_762 : Cond.code yX4_pairsMet cX4_pairsMet 3 (some .int) ∈ TT := tt_of (in_4 (List.mem_of_getElem? (i := 42) rfl)) rfl
theorem tw_763 : Cond.methodLink RX4 103 yJ6_bitCount_0f7a4 ∈ TT := tt_of (in_4 (List.mem_of_getElem? (i := 43) rfl)) rfl
theorem tw_764 : Cond.static yJ6_bitCount_0f7a4 ∈ TT := tt_of (in_4 (List.mem_of_getElem? (i := 44) rfl)) rfl
theorem tw_765 : Cond.code yJ6_bitCount_0f7a4 cJ6_bitCount_0f7a4 1 (some .int) ∈ TT := tt_of (in_4 (List.mem_of_getElem? (i := 45) rfl)) rfl
theorem tw_766 : Cond.constant RJ6 265 (1431655765 : Int32) ∈ TT := tt_of (in_4 (List.mem_of_getElem? (i := 46) rfl)) rfl
theorem tw_767 : Cond.constant RJ6 266 (858993459 : Int32) ∈ TT := tt_of (in_4 (List.mem_of_getElem? (i := 47) rfl)) rfl
theorem tw_768 : Cond.constant RJ6 267 (252645135 : Int32) ∈ TT := tt_of (in_4 (List.mem_of_getElem? (i := 48) rfl)) rfl
theorem tw_769 : Cond.methodLink RX10 208 yX4_allHunger ∈ TT := tt_of (in_4 (List.mem_of_getElem? (i := 49) rfl)) rfl
theorem tw_770 : Cond.instanceMethod yX4_allHunger ∈ TT := tt_of (in_4 (List.mem_of_getElem? (i := 50) rfl)) rfl
theorem tw_771 : Cond.selects RX4 yX4_allHunger yX4_allHunger ∈ TT := tt_of (in_4 (List.mem_of_getElem? (i := 51) rfl)) rfl
theorem tw_772 : Cond.code yX4_allHunger cX4_allHunger 3 (some .int) ∈ TT := tt_of (in_4 (List.mem_of_getElem? (i := 52) rfl)) rfl
theorem tw_773 : Cond.methodLink RL 61 yX10_buy ∈ TT := tt_of (in_4 (List.mem_of_getElem? (i := 53) rfl)) rfl
theorem tw_774 : Cond.instanceMethod yX10_buy ∈ TT := tt_of (in_4 (List.mem_of_getElem? (i := 54) rfl)) rfl
theorem tw_775 : Cond.selects RX10 yX10_buy yX10_buy ∈ TT := tt_of (in_4 (List.mem_of_getElem? (i := 55) rfl)) rfl
theorem tw_776 : Cond.code yX10_buy cX10_buy 5 (some .int) ∈ TT := tt_of (in_4 (List.mem_of_getElem? (i := 56) rfl)) rfl
theorem tw_777 : Cond.methodLink RX10 211 yX4_whyNotBuy ∈ TT := tt_of (in_4 (List.mem_of_getElem? (i := 57) rfl)) rfl
theorem tw_778 : Cond.instanceMethod yX4_whyNotBuy ∈ TT := tt_of (in_4 (List.mem_of_getElem? (i := 58) rfl)) rfl
theorem tw_779 : Cond.selects RX4 yX4_whyNotBuy yX4_whyNotBuy ∈ TT := tt_of (in_4 (List.mem_of_getElem? (i := 59) rfl)) rfl
theorem tw_780 : Cond.code yX4_whyNotBuy cX4_whyNotBuy 4 (some .int) ∈ TT := tt_of (in_4 (List.mem_of_getElem? (i := 60) rfl)) rfl
theorem tw_782 : Cond.methodLink RX4 112 yX4_dealable ∈ TT := tt_of (in_4 (List.mem_of_getElem? (i := 62) rfl)) rfl
theorem tw_783 : Cond.instanceMethod yX4_dealable ∈ TT := tt_of (in_4 (List.mem_of_getElem? (i := 63) rfl)) rfl
theorem tw_784 : Cond.selects RX4 yX4_dealable yX4_dealable ∈ TT := tt_of (in_4 (List.mem_of_getElem? (i := 64) rfl)) rfl
theorem tw_785 : Cond.code yX4_dealable cX4_dealable 2 (some .int) ∈ TT := tt_of (in_4 (List.mem_of_getElem? (i := 65) rfl)) rfl
theorem tw_786 : Cond.methodLink RX4 79 yX4_known ∈ TT := tt_of (in_4 (List.mem_of_getElem? (i := 66) rfl)) rfl
theorem tw_787 : Cond.instanceMethod yX4_known ∈ TT := tt_of (in_4 (List.mem_of_getElem? (i := 67) rfl)) rfl
theorem tw_788 : Cond.selects RX4 yX4_known yX4_known ∈ TT := tt_of (in_4 (List.mem_of_getElem? (i := 68) rfl)) rfl
theorem tw_789 : Cond.code yX4_known cX4_known 2 (some .int) ∈ TT := tt_of (in_4 (List.mem_of_getElem? (i := 69) rfl)) rfl
theorem tw_790 : Cond.methodLink RX4 86 yX1_everyone ∈ TT := tt_of (in_4 (List.mem_of_getElem? (i := 70) rfl)) rfl
theorem tw_791 : Cond.instanceMethod yX1_everyone ∈ TT := tt_of (in_4 (List.mem_of_getElem? (i := 71) rfl)) rfl
theorem tw_792 : Cond.selects RX1 yX1_everyone yX1_everyone ∈ TT := tt_of (in_4 (List.mem_of_getElem? (i := 72) rfl)) rfl
theorem tw_793 : Cond.code yX1_everyone cX1_everyone 1 (some .int) ∈ TT := tt_of (in_4 (List.mem_of_getElem? (i := 73) rfl)) rfl
theorem tw_794 : Cond.methodLink RX10 215 yX10_keepForUndo ∈ TT := tt_of (in_4 (List.mem_of_getElem? (i := 74) rfl)) rfl
theorem tw_796 : Cond.instanceMethod yX10_keepForUndo ∈ TT := tt_of (in_4 (List.mem_of_getElem? (i := 76) rfl)) rfl
theorem tw_797 : Cond.code yX10_keepForUndo cX10_keepForUndo 3 none ∈ TT := tt_of (in_4 (List.mem_of_getElem? (i := 77) rfl)) rfl
theorem tw_798 : Cond.methodLink RX10 244 yX4_copyFrom ∈ TT := tt_of (in_4 (List.mem_of_getElem? (i := 78) rfl)) rfl
theorem tw_799 : Cond.instanceMethod yX4_copyFrom ∈ TT := tt_of (in_4 (List.mem_of_getElem? (i := 79) rfl)) rfl
theorem tw_800 : Cond.selects RX4 yX4_copyFrom yX4_copyFrom ∈ TT := tt_of (in_4 (List.mem_of_getElem? (i := 80) rfl)) rfl
theorem tw_801 : Cond.code yX4_copyFrom cX4_copyFrom 2 none ∈ TT := tt_of (in_4 (List.mem_of_getElem? (i := 81) rfl)) rfl
theorem tw_802 : Cond.methodLink RX10 218 yX4_doBuy ∈ TT := tt_of (in_4 (List.mem_of_getElem? (i := 82) rfl)) rfl
theorem tw_803 : Cond.instanceMethod yX4_doBuy ∈ TT := tt_of (in_4 (List.mem_of_getElem? (i := 83) rfl)) rfl
theorem tw_804 : Cond.selects RX4 yX4_doBuy yX4_doBuy ∈ TT := tt_of (in_4 (List.mem_of_getElem? (i := 84) rfl)) rfl
theorem tw_805 : Cond.code yX4_doBuy cX4_doBuy 5 none ∈ TT := tt_of (in_4 (List.mem_of_getElem? (i := 85) rfl)) rfl
theorem tw_807 : Cond.methodLink RX4 120 yX4_meet ∈ TT := tt_of (in_4 (List.mem_of_getElem? (i := 87) rfl)) rfl
theorem tw_808 : Cond.instanceMethod yX4_meet ∈ TT := tt_of (in_4 (List.mem_of_getElem? (i := 88) rfl)) rfl
theorem tw_809 : Cond.selects RX4 yX4_meet yX4_meet ∈ TT := tt_of (in_4 (List.mem_of_getElem? (i := 89) rfl)) rfl
theorem tw_810 : Cond.code yX4_meet cX4_meet 3 none ∈ TT := tt_of (in_4 (List.mem_of_getElem? (i := 90) rfl)) rfl
theorem tw_811 : Cond.methodLink RL 65 yX10_nod ∈ TT := tt_of (in_4 (List.mem_of_getElem? (i := 91) rfl)) rfl
theorem tw_812 : Cond.instanceMethod yX10_nod ∈ TT := tt_of (in_4 (List.mem_of_getElem? (i := 92) rfl)) rfl
theorem tw_813 : Cond.selects RX10 yX10_nod yX10_nod ∈ TT := tt_of (in_4 (List.mem_of_getElem? (i := 93) rfl)) rfl
theorem tw_814 : Cond.code yX10_nod cX10_nod 4 (some .int) ∈ TT := tt_of (in_4 (List.mem_of_getElem? (i := 94) rfl)) rfl
theorem tw_815 : Cond.methodLink RX10 222 yX4_whyNotNod ∈ TT := tt_of (in_4 (List.mem_of_getElem? (i := 95) rfl)) rfl
theorem tw_816 : Cond.instanceMethod yX4_whyNotNod ∈ TT := tt_of (in_4 (List.mem_of_getElem? (i := 96) rfl)) rfl
theorem tw_817 : Cond.selects RX4 yX4_whyNotNod yX4_whyNotNod ∈ TT := tt_of (in_4 (List.mem_of_getElem? (i := 97) rfl)) rfl
theorem tw_818 : Cond.code yX4_whyNotNod cX4_whyNotNod 3 (some .int) ∈ TT := tt_of (in_4 (List.mem_of_getElem? (i := 98) rfl)) rfl
theorem tw_819 : Cond.methodLink RX10 225 yX4_doNod ∈ TT := tt_of (in_4 (List.mem_of_getElem? (i := 99) rfl)) rfl
theorem tw_820 : Cond.instanceMethod yX4_doNod ∈ TT := tt_of (in_4 (List.mem_of_getElem? (i := 100) rfl)) rfl
theorem tw_821 : Cond.selects RX4 yX4_doNod yX4_doNod ∈ TT := tt_of (in_4 (List.mem_of_getElem? (i := 101) rfl)) rfl
theorem tw_822 : Cond.code yX4_doNod cX4_doNod 3 none ∈ TT := tt_of (in_4 (List.mem_of_getElem? (i := 102) rfl)) rfl
theorem tw_823 : Cond.methodLink RL 69 yX10_veil ∈ TT := tt_of (in_4 (List.mem_of_getElem? (i := 103) rfl)) rfl
theorem tw_824 : Cond.instanceMethod yX10_veil ∈ TT := tt_of (in_4 (List.mem_of_getElem? (i := 104) rfl)) rfl
theorem tw_825 : Cond.selects RX10 yX10_veil yX10_veil ∈ TT := tt_of (in_4 (List.mem_of_getElem? (i := 105) rfl)) rfl
theorem tw_826 : Cond.code yX10_veil cX10_veil 3 (some .int) ∈ TT := tt_of (in_4 (List.mem_of_getElem? (i := 106) rfl)) rfl
theorem tw_827 : Cond.methodLink RX10 229 yX4_whyNotVeil ∈ TT := tt_of (in_4 (List.mem_of_getElem? (i := 107) rfl)) rfl
theorem tw_828 : Cond.instanceMethod yX4_whyNotVeil ∈ TT := tt_of (in_4 (List.mem_of_getElem? (i := 108) rfl)) rfl
theorem tw_829 : Cond.selects RX4 yX4_whyNotVeil yX4_whyNotVeil ∈ TT := tt_of (in_4 (List.mem_of_getElem? (i := 109) rfl)) rfl
theorem tw_830 : Cond.code yX4_whyNotVeil cX4_whyNotVeil 2 (some .int) ∈ TT := tt_of (in_4 (List.mem_of_getElem? (i := 110) rfl)) rfl
theorem tw_831 : Cond.methodLink RX10 232 yX4_doVeil ∈ TT := tt_of (in_4 (List.mem_of_getElem? (i := 111) rfl)) rfl
theorem tw_832 : Cond.instanceMethod yX4_doVeil ∈ TT := tt_of (in_4 (List.mem_of_getElem? (i := 112) rfl)) rfl
theorem tw_833 : Cond.selects RX4 yX4_doVeil yX4_doVeil ∈ TT := tt_of (in_4 (List.mem_of_getElem? (i := 113) rfl)) rfl
theorem tw_834 : Cond.code yX4_doVeil cX4_doVeil 2 none ∈ TT := tt_of (in_4 (List.mem_of_getElem? (i := 114) rfl)) rfl
theorem tw_835 : Cond.methodLink RL 73 yX10_tell ∈ TT := tt_of (in_4 (List.mem_of_getElem? (i := 115) rfl)) rfl
theorem tw_836 : Cond.instanceMethod yX10_tell ∈ TT := tt_of (in_4 (List.mem_of_getElem? (i := 116) rfl)) rfl
theorem tw_837 : Cond.selects RX10 yX10_tell yX10_tell ∈ TT := tt_of (in_4 (List.mem_of_getElem? (i := 117) rfl)) rfl
theorem tw_838 : Cond.code yX10_tell cX10_tell 5 (some .int) ∈ TT := tt_of (in_4 (List.mem_of_getElem? (i := 118) rfl)) rfl
theorem tw_839 : Cond.methodLink RX10 235 yX4_whyNotTell ∈ TT := tt_of (in_4 (List.mem_of_getElem? (i := 119) rfl)) rfl
theorem tw_840 : Cond.instanceMethod yX4_whyNotTell ∈ TT := tt_of (in_4 (List.mem_of_getElem? (i := 120) rfl)) rfl
theorem tw_841 : Cond.selects RX4 yX4_whyNotTell yX4_whyNotTell ∈ TT := tt_of (in_4 (List.mem_of_getElem? (i := 121) rfl)) rfl
theorem tw_842 : Cond.code yX4_whyNotTell cX4_whyNotTell 4 (some .int) ∈ TT := tt_of (in_4 (List.mem_of_getElem? (i := 122) rfl)) rfl
theorem tw_843 : Cond.methodLink RX10 238 yX4_meet ∈ TT := tt_of (in_4 (List.mem_of_getElem? (i := 123) rfl)) rfl
theorem tw_844 : Cond.methodLink RL 77 yX10_days ∈ TT := tt_of (in_4 (List.mem_of_getElem? (i := 124) rfl)) rfl
theorem tw_845 : Cond.instanceMethod yX10_days ∈ TT := tt_of (in_4 (List.mem_of_getElem? (i := 125) rfl)) rfl
theorem tw_846 : Cond.selects RX10 yX10_days yX10_days ∈ TT := tt_of (in_4 (List.mem_of_getElem? (i := 126) rfl)) rfl
theorem tw_847 : Cond.code yX10_days cX10_days 2 (some .int) ∈ TT := tt_of (in_4 (List.mem_of_getElem? (i := 127) rfl)) rfl
theorem tw_848 : Cond.methodLink RX10 241 yX4_passDays ∈ TT := tt_of (in_4 (List.mem_of_getElem? (i := 128) rfl)) rfl
theorem tw_849 : Cond.instanceMethod yX4_passDays ∈ TT := tt_of (in_4 (List.mem_of_getElem? (i := 129) rfl)) rfl
theorem tw_850 : Cond.selects RX4 yX4_passDays yX4_passDays ∈ TT := tt_of (in_4 (List.mem_of_getElem? (i := 130) rfl)) rfl
theorem tw_851 : Cond.code yX4_passDays cX4_passDays 3 (some .int) ∈ TT := tt_of (in_4 (List.mem_of_getElem? (i := 131) rfl)) rfl
theorem tw_852 : Cond.methodLink RX4 132 yX4_passDay ∈ TT := tt_of (in_4 (List.mem_of_getElem? (i := 132) rfl)) rfl
theorem tw_854 : Cond.instanceMethod yX4_passDay ∈ TT := tt_of (in_4 (List.mem_of_getElem? (i := 134) rfl)) rfl
theorem tw_855 : Cond.code yX4_passDay cX4_passDay 2 none ∈ TT := tt_of (in_4 (List.mem_of_getElem? (i := 135) rfl)) rfl
theorem tw_856 : Cond.methodLink RX4 124 yJ9_min_7cf53 ∈ TT := tt_of (in_4 (List.mem_of_getElem? (i := 136) rfl)) rfl
theorem tw_857 : Cond.methodLink RL 81 yX10_undo ∈ TT := tt_of (in_4 (List.mem_of_getElem? (i := 137) rfl)) rfl
theorem tw_858 : Cond.instanceMethod yX10_undo ∈ TT := tt_of (in_4 (List.mem_of_getElem? (i := 138) rfl)) rfl
theorem tw_859 : Cond.selects RX10 yX10_undo yX10_undo ∈ TT := tt_of (in_4 (List.mem_of_getElem? (i := 139) rfl)) rfl
theorem tw_860 : Cond.code yX10_undo cX10_undo 1 (some .int) ∈ TT := tt_of (in_4 (List.mem_of_getElem? (i := 140) rfl)) rfl
theorem tw_861 : Cond.methodLink RL 85 yX10_most ∈ TT := tt_of (in_4 (List.mem_of_getElem? (i := 141) rfl)) rfl
theorem tw_862 : Cond.instanceMethod yX10_most ∈ TT := tt_of (in_4 (List.mem_of_getElem? (i := 142) rfl)) rfl
theorem tw_863 : Cond.selects RX10 yX10_most yX10_most ∈ TT := tt_of (in_4 (List.mem_of_getElem? (i := 143) rfl)) rfl
theorem tw_864 : Cond.code yX10_most cX10_most 2 (some .int) ∈ TT := tt_of (in_4 (List.mem_of_getElem? (i := 144) rfl)) rfl
theorem tw_865 : Cond.methodLink RX10 247 yX9_mostOf ∈ TT := tt_of (in_4 (List.mem_of_getElem? (i := 145) rfl)) rfl
theorem tw_866 : Cond.instanceMethod yX9_mostOf ∈ TT := tt_of (in_4 (List.mem_of_getElem? (i := 146) rfl)) rfl
theorem tw_867 : Cond.selects RX9 yX9_mostOf yX9_mostOf ∈ TT := tt_of (in_4 (List.mem_of_getElem? (i := 147) rfl)) rfl
theorem tw_868 : Cond.code yX9_mostOf cX9_mostOf 8 (some .int) ∈ TT := tt_of (in_4 (List.mem_of_getElem? (i := 148) rfl)) rfl
theorem tw_869 : Cond.methodLink RX9 36 yX1_everyone ∈ TT := tt_of (in_4 (List.mem_of_getElem? (i := 149) rfl)) rfl
theorem tw_872 : Cond.methodLink RX9 61 yX9_canReach ∈ TT := tt_of (in_4 (List.mem_of_getElem? (i := 152) rfl)) rfl
theorem tw_874 : Cond.instanceMethod yX9_canReach ∈ TT := tt_of (in_4 (List.mem_of_getElem? (i := 154) rfl)) rfl
theorem tw_875 : Cond.code yX9_canReach cX9_canReach 6 (some .int) ∈ TT := tt_of (in_4 (List.mem_of_getElem? (i := 155) rfl)) rfl
theorem tw_876 : Cond.methodLink RX9 69 yX4_dealable ∈ TT := tt_of (in_4 (List.mem_of_getElem? (i := 156) rfl)) rfl
theorem tw_878 : Cond.methodLink RX9 84 yJ9_max_7cf53 ∈ TT := tt_of (in_4 (List.mem_of_getElem? (i := 158) rfl)) rfl
theorem tw_879 : Cond.static yJ9_max_7cf53 ∈ TT := tt_of (in_4 (List.mem_of_getElem? (i := 159) rfl)) rfl
theorem tw_880 : Cond.code yJ9_max_7cf53 cJ9_max_7cf53 2 (some .int) ∈ TT := tt_of (in_4 (List.mem_of_getElem? (i := 160) rfl)) rfl
theorem tw_881 : Cond.methodLink RX9 64 yJ9_min_7cf53 ∈ TT := tt_of (in_4 (List.mem_of_getElem? (i := 161) rfl)) rfl
theorem tw_882 : Cond.methodLink RL 89 yX10_who ∈ TT := tt_of (in_4 (List.mem_of_getElem? (i := 162) rfl)) rfl
theorem tw_883 : Cond.instanceMethod yX10_who ∈ TT := tt_of (in_4 (List.mem_of_getElem? (i := 163) rfl)) rfl
theorem tw_884 : Cond.selects RX10 yX10_who yX10_who ∈ TT := tt_of (in_4 (List.mem_of_getElem? (i := 164) rfl)) rfl
theorem tw_885 : Cond.code yX10_who cX10_who 2 (some .int) ∈ TT := tt_of (in_4 (List.mem_of_getElem? (i := 165) rfl)) rfl
theorem tw_886 : Cond.methodLink RX10 250 yX9_maskedBy ∈ TT := tt_of (in_4 (List.mem_of_getElem? (i := 166) rfl)) rfl
theorem tw_887 : Cond.instanceMethod yX9_maskedBy ∈ TT := tt_of (in_4 (List.mem_of_getElem? (i := 167) rfl)) rfl
theorem tw_888 : Cond.selects RX9 yX9_maskedBy yX9_maskedBy ∈ TT := tt_of (in_4 (List.mem_of_getElem? (i := 168) rfl)) rfl
theorem tw_889 : Cond.code yX9_maskedBy cX9_maskedBy 7 (some .int) ∈ TT := tt_of (in_4 (List.mem_of_getElem? (i := 169) rfl)) rfl
theorem tw_890 : Cond.methodLink RX9 95 yX1_isPerson ∈ TT := tt_of (in_4 (List.mem_of_getElem? (i := 170) rfl)) rfl
theorem tw_891 : Cond.methodLink RX9 99 yX9_bestToAsk ∈ TT := tt_of (in_4 (List.mem_of_getElem? (i := 171) rfl)) rfl
theorem tw_893 : Cond.instanceMethod yX9_bestToAsk ∈ TT := tt_of (in_4 (List.mem_of_getElem? (i := 173) rfl)) rfl
theorem tw_894 : Cond.code yX9_bestToAsk cX9_bestToAsk 7 (some .int) ∈ TT := tt_of (in_4 (List.mem_of_getElem? (i := 174) rfl)) rfl
theorem tw_895 : Cond.methodLink RX9 102 yJ6_bitCount_0f7a4 ∈ TT := tt_of (in_4 (List.mem_of_getElem? (i := 175) rfl)) rfl
theorem tw_896 : Cond.methodLink RL 93 yX10_ask ∈ TT := tt_of (in_4 (List.mem_of_getElem? (i := 176) rfl)) rfl
theorem tw_897 : Cond.instanceMethod yX10_ask ∈ TT := tt_of (in_4 (List.mem_of_getElem? (i := 177) rfl)) rfl
theorem tw_898 : Cond.selects RX10 yX10_ask yX10_ask ∈ TT := tt_of (in_4 (List.mem_of_getElem? (i := 178) rfl)) rfl
theorem tw_899 : Cond.code yX10_ask cX10_ask 1 (some .int) ∈ TT := tt_of (in_4 (List.mem_of_getElem? (i := 179) rfl)) rfl
theorem tw_900 : Cond.methodLink RL 97 yX10_serve ∈ TT := tt_of (in_4 (List.mem_of_getElem? (i := 180) rfl)) rfl
theorem tw_901 : Cond.instanceMethod yX10_serve ∈ TT := tt_of (in_4 (List.mem_of_getElem? (i := 181) rfl)) rfl
theorem tw_902 : Cond.selects RX10 yX10_serve yX10_serve ∈ TT := tt_of (in_4 (List.mem_of_getElem? (i := 182) rfl)) rfl
theorem tw_903 : Cond.code yX10_serve cX10_serve 2 (some .int) ∈ TT := tt_of (in_4 (List.mem_of_getElem? (i := 183) rfl)) rfl
theorem tw_904 : Cond.methodLink RX10 257 yX9_fewestSellers ∈ TT := tt_of (in_4 (List.mem_of_getElem? (i := 184) rfl)) rfl
theorem tw_905 : Cond.instanceMethod yX9_fewestSellers ∈ TT := tt_of (in_4 (List.mem_of_getElem? (i := 185) rfl)) rfl
theorem tw_906 : Cond.selects RX9 yX9_fewestSellers yX9_fewestSellers ∈ TT := tt_of (in_4 (List.mem_of_getElem? (i := 186) rfl)) rfl
theorem tw_907 : Cond.code yX9_fewestSellers cX9_fewestSellers 7 (some .int) ∈ TT := tt_of (in_4 (List.mem_of_getElem? (i := 187) rfl)) rfl
theorem tw_908 : Cond.methodLink RX9 107 yX9_sellersOf ∈ TT := tt_of (in_4 (List.mem_of_getElem? (i := 188) rfl)) rfl
theorem tw_910 : Cond.instanceMethod yX9_sellersOf ∈ TT := tt_of (in_4 (List.mem_of_getElem? (i := 190) rfl)) rfl
theorem tw_911 : Cond.code yX9_sellersOf cX9_sellersOf 4 (some .int) ∈ TT := tt_of (in_4 (List.mem_of_getElem? (i := 191) rfl)) rfl
theorem tw_912 : Cond.methodLink RX9 110 yX9_areAllServed ∈ TT := tt_of (in_4 (List.mem_of_getElem? (i := 192) rfl)) rfl
theorem tw_914 : Cond.instanceMethod yX9_areAllServed ∈ TT := tt_of (in_4 (List.mem_of_getElem? (i := 194) rfl)) rfl
theorem tw_915 : Cond.code yX9_areAllServed cX9_areAllServed 4 (some .boolean) ∈ TT := tt_of (in_4 (List.mem_of_getElem? (i := 195) rfl)) rfl
theorem tw_916 : Cond.methodLink RL 101 yX10_serving ∈ TT := tt_of (in_4 (List.mem_of_getElem? (i := 196) rfl)) rfl
theorem tw_917 : Cond.instanceMethod yX10_serving ∈ TT := tt_of (in_4 (List.mem_of_getElem? (i := 197) rfl)) rfl
theorem tw_918 : Cond.selects RX10 yX10_serving yX10_serving ∈ TT := tt_of (in_4 (List.mem_of_getElem? (i := 198) rfl)) rfl
theorem tw_919 : Cond.code yX10_serving cX10_serving 1 (some .int) ∈ TT := tt_of (in_4 (List.mem_of_getElem? (i := 199) rfl)) rfl
theorem tw_920 : Cond.methodLink RL 105 yX10_chain ∈ TT := tt_of (in_4 (List.mem_of_getElem? (i := 200) rfl)) rfl
theorem tw_921 : Cond.instanceMethod yX10_chain ∈ TT := tt_of (in_4 (List.mem_of_getElem? (i := 201) rfl)) rfl
theorem tw_922 : Cond.selects RX10 yX10_chain yX10_chain ∈ TT := tt_of (in_4 (List.mem_of_getElem? (i := 202) rfl)) rfl
theorem tw_923 : Cond.code yX10_chain cX10_chain 3 (some .int) ∈ TT := tt_of (in_4 (List.mem_of_getElem? (i := 203) rfl)) rfl
theorem tw_924 : Cond.methodLink RX10 263 yX9_goBetweens ∈ TT := tt_of (in_4 (List.mem_of_getElem? (i := 204) rfl)) rfl
theorem tw_925 : Cond.instanceMethod yX9_goBetweens ∈ TT := tt_of (in_4 (List.mem_of_getElem? (i := 205) rfl)) rfl
theorem tw_926 : Cond.selects RX9 yX9_goBetweens yX9_goBetweens ∈ TT := tt_of (in_4 (List.mem_of_getElem? (i := 206) rfl)) rfl
theorem tw_927 : Cond.code yX9_goBetweens cX9_goBetweens 6 (some .int) ∈ TT := tt_of (in_4 (List.mem_of_getElem? (i := 207) rfl)) rfl
theorem tw_928 : Cond.methodLink RX9 117 yX9_withDealers ∈ TT := tt_of (in_4 (List.mem_of_getElem? (i := 208) rfl)) rfl
theorem tw_930 : Cond.instanceMethod yX9_withDealers ∈ TT := tt_of (in_4 (List.mem_of_getElem? (i := 210) rfl)) rfl
theorem tw_931 : Cond.code yX9_withDealers cX9_withDealers 4 (some .int) ∈ TT := tt_of (in_4 (List.mem_of_getElem? (i := 211) rfl)) rfl
theorem tw_932 : Cond.methodLink RX9 123 yX9_leastDealer ∈ TT := tt_of (in_4 (List.mem_of_getElem? (i := 212) rfl)) rfl
theorem tw_934 : Cond.instanceMethod yX9_leastDealer ∈ TT := tt_of (in_4 (List.mem_of_getElem? (i := 214) rfl)) rfl
theorem tw_935 : Cond.code yX9_leastDealer cX9_leastDealer 4 (some .int) ∈ TT := tt_of (in_4 (List.mem_of_getElem? (i := 215) rfl)) rfl
theorem tw_937 : Cond.static yX10_bitAt ∈ TT := tt_of (in_4 (List.mem_of_getElem? (i := 217) rfl)) rfl
theorem tw_938 : Cond.code yX10_bitAt cX10_bitAt 4 (some .int) ∈ TT := tt_of (in_4 (List.mem_of_getElem? (i := 218) rfl)) rfl
theorem tw_939 : Cond.methodLink RX10 275 yX10_has ∈ TT := tt_of (in_4 (List.mem_of_getElem? (i := 219) rfl)) rfl
theorem tw_940 : Cond.methodLink RL 109 yX10_chainAt ∈ TT := tt_of (in_4 (List.mem_of_getElem? (i := 220) rfl)) rfl
theorem tw_941 : Cond.instanceMethod yX10_chainAt ∈ TT := tt_of (in_4 (List.mem_of_getElem? (i := 221) rfl)) rfl
theorem tw_942 : Cond.selects RX10 yX10_chainAt yX10_chainAt ∈ TT := tt_of (in_4 (List.mem_of_getElem? (i := 222) rfl)) rfl
theorem tw_943 : Cond.code yX10_chainAt cX10_chainAt 2 (some .int) ∈ TT := tt_of (in_4 (List.mem_of_getElem? (i := 223) rfl)) rfl
theorem tw_944 : Cond.methodLink RL 113 yX10_out ∈ TT := tt_of (in_4 (List.mem_of_getElem? (i := 224) rfl)) rfl
theorem tw_945 : Cond.instanceMethod yX10_out ∈ TT := tt_of (in_4 (List.mem_of_getElem? (i := 225) rfl)) rfl
theorem tw_946 : Cond.selects RX10 yX10_out yX10_out ∈ TT := tt_of (in_4 (List.mem_of_getElem? (i := 226) rfl)) rfl
theorem tw_947 : Cond.code yX10_out cX10_out 2 (some .int) ∈ TT := tt_of (in_4 (List.mem_of_getElem? (i := 227) rfl)) rfl
theorem tw_948 : Cond.methodLink RX10 272 yX9_daysTillOut ∈ TT := tt_of (in_4 (List.mem_of_getElem? (i := 228) rfl)) rfl
theorem tw_949 : Cond.instanceMethod yX9_daysTillOut ∈ TT := tt_of (in_4 (List.mem_of_getElem? (i := 229) rfl)) rfl
theorem tw_950 : Cond.selects RX9 yX9_daysTillOut yX9_daysTillOut ∈ TT := tt_of (in_4 (List.mem_of_getElem? (i := 230) rfl)) rfl
theorem tw_951 : Cond.code yX9_daysTillOut cX9_daysTillOut 4 (some .int) ∈ TT := tt_of (in_4 (List.mem_of_getElem? (i := 231) rfl)) rfl
theorem tw_952 : Cond.methodLink RX9 132 yX9_withKnown ∈ TT := tt_of (in_4 (List.mem_of_getElem? (i := 232) rfl)) rfl
theorem tw_954 : Cond.instanceMethod yX9_withKnown ∈ TT := tt_of (in_4 (List.mem_of_getElem? (i := 234) rfl)) rfl
theorem tw_955 : Cond.code yX9_withKnown cX9_withKnown 4 (some .int) ∈ TT := tt_of (in_4 (List.mem_of_getElem? (i := 235) rfl)) rfl
theorem tw_956 : Cond.methodLink RX9 129 yX4_known ∈ TT := tt_of (in_4 (List.mem_of_getElem? (i := 236) rfl)) rfl
theorem tw_957 : Cond.methodLink RL 117 yX10_apart ∈ TT := tt_of (in_4 (List.mem_of_getElem? (i := 237) rfl)) rfl
theorem tw_958 : Cond.instanceMethod yX10_apart ∈ TT := tt_of (in_4 (List.mem_of_getElem? (i := 238) rfl)) rfl
theorem tw_959 : Cond.selects RX10 yX10_apart yX10_apart ∈ TT := tt_of (in_4 (List.mem_of_getElem? (i := 239) rfl)) rfl
theorem tw_960 : Cond.code yX10_apart cX10_apart 3 (some .int) ∈ TT := tt_of (in_5 (List.mem_of_getElem? (i := 0) rfl)) rfl
theorem tw_961 : Cond.methodLink RX10 145 yX4_known ∈ TT := tt_of (in_5 (List.mem_of_getElem? (i := 1) rfl)) rfl
theorem tw_962 : Cond.methodLink RX10 278 yX9_fewestForgotten ∈ TT := tt_of (in_5 (List.mem_of_getElem? (i := 2) rfl)) rfl
theorem tw_963 : Cond.instanceMethod yX9_fewestForgotten ∈ TT := tt_of (in_5 (List.mem_of_getElem? (i := 3) rfl)) rfl
theorem tw_964 : Cond.selects RX9 yX9_fewestForgotten yX9_fewestForgotten ∈ TT := tt_of (in_5 (List.mem_of_getElem? (i := 4) rfl)) rfl
theorem tw_965 : Cond.code yX9_fewestForgotten cX9_fewestForgotten 7 (some .int) ∈ TT := tt_of (in_5 (List.mem_of_getElem? (i := 5) rfl)) rfl
theorem tw_966 : Cond.methodLink RX9 135 yX9_isLinked ∈ TT := tt_of (in_5 (List.mem_of_getElem? (i := 6) rfl)) rfl
theorem tw_968 : Cond.instanceMethod yX9_isLinked ∈ TT := tt_of (in_5 (List.mem_of_getElem? (i := 8) rfl)) rfl
theorem tw_969 : Cond.code yX9_isLinked cX9_isLinked 6 (some .boolean) ∈ TT := tt_of (in_5 (List.mem_of_getElem? (i := 9) rfl)) rfl
theorem tw_970 : Cond.methodLink RL 121 yX10_parting ∈ TT := tt_of (in_5 (List.mem_of_getElem? (i := 10) rfl)) rfl
theorem tw_971 : Cond.instanceMethod yX10_parting ∈ TT := tt_of (in_5 (List.mem_of_getElem? (i := 11) rfl)) rfl
theorem tw_972 : Cond.selects RX10 yX10_parting yX10_parting ∈ TT := tt_of (in_5 (List.mem_of_getElem? (i := 12) rfl)) rfl
theorem tw_973 : Cond.code yX10_parting cX10_parting 1 (some .int) ∈ TT := tt_of (in_5 (List.mem_of_getElem? (i := 13) rfl)) rfl
theorem tw_974 : Cond.methodLink RL 125 yX10_recluse ∈ TT := tt_of (in_5 (List.mem_of_getElem? (i := 14) rfl)) rfl
theorem tw_975 : Cond.instanceMethod yX10_recluse ∈ TT := tt_of (in_5 (List.mem_of_getElem? (i := 15) rfl)) rfl
theorem tw_976 : Cond.selects RX10 yX10_recluse yX10_recluse ∈ TT := tt_of (in_5 (List.mem_of_getElem? (i := 16) rfl)) rfl
theorem tw_977 : Cond.code yX10_recluse cX10_recluse 1 (some .int) ∈ TT := tt_of (in_5 (List.mem_of_getElem? (i := 17) rfl)) rfl
theorem tw_978 : Cond.methodLink RX10 284 yX9_loneliest ∈ TT := tt_of (in_5 (List.mem_of_getElem? (i := 18) rfl)) rfl
theorem tw_979 : Cond.instanceMethod yX9_loneliest ∈ TT := tt_of (in_5 (List.mem_of_getElem? (i := 19) rfl)) rfl
theorem tw_980 : Cond.selects RX9 yX9_loneliest yX9_loneliest ∈ TT := tt_of (in_5 (List.mem_of_getElem? (i := 20) rfl)) rfl
theorem tw_981 : Cond.code yX9_loneliest cX9_loneliest 5 (some .int) ∈ TT := tt_of (in_5 (List.mem_of_getElem? (i := 21) rfl)) rfl
theorem tw_982 : Cond.methodLink RL 129 yX10_face ∈ TT := tt_of (in_5 (List.mem_of_getElem? (i := 22) rfl)) rfl
theorem tw_983 : Cond.instanceMethod yX10_face ∈ TT := tt_of (in_5 (List.mem_of_getElem? (i := 23) rfl)) rfl
theorem tw_984 : Cond.selects RX10 yX10_face yX10_face ∈ TT := tt_of (in_5 (List.mem_of_getElem? (i := 24) rfl)) rfl
theorem tw_985 : Cond.code yX10_face cX10_face 2 (some .int) ∈ TT := tt_of (in_5 (List.mem_of_getElem? (i := 25) rfl)) rfl
theorem tw_986 : Cond.methodLink RX10 287 yX5_draw ∈ TT := tt_of (in_5 (List.mem_of_getElem? (i := 26) rfl)) rfl
theorem tw_987 : Cond.instanceMethod yX5_draw ∈ TT := tt_of (in_5 (List.mem_of_getElem? (i := 27) rfl)) rfl
theorem tw_988 : Cond.selects RX5 yX5_draw yX5_draw ∈ TT := tt_of (in_5 (List.mem_of_getElem? (i := 28) rfl)) rfl
theorem tw_989 : Cond.code yX5_draw cX5_draw 6 none ∈ TT := tt_of (in_5 (List.mem_of_getElem? (i := 29) rfl)) rfl
theorem tw_990 : Cond.methodLink RX5 25 yX5_addName ∈ TT := tt_of (in_5 (List.mem_of_getElem? (i := 30) rfl)) rfl
theorem tw_992 : Cond.instanceMethod yX5_addName ∈ TT := tt_of (in_5 (List.mem_of_getElem? (i := 32) rfl)) rfl
theorem tw_993 : Cond.code yX5_addName cX5_addName 5 none ∈ TT := tt_of (in_5 (List.mem_of_getElem? (i := 33) rfl)) rfl
theorem tw_994 : Cond.methodLink RX5 48 yX5_add ∈ TT := tt_of (in_5 (List.mem_of_getElem? (i := 34) rfl)) rfl
theorem tw_996 : Cond.instanceMethod yX5_add ∈ TT := tt_of (in_5 (List.mem_of_getElem? (i := 36) rfl)) rfl
theorem tw_997 : Cond.code yX5_add cX5_add 2 none ∈ TT := tt_of (in_5 (List.mem_of_getElem? (i := 37) rfl)) rfl
theorem tw_999 : Cond.methodLink RX5 31 yX5_addText ∈ TT := tt_of (in_5 (List.mem_of_getElem? (i := 39) rfl)) rfl
theorem tw_1001 : Cond.instanceMethod yX5_addText ∈ TT := tt_of (in_5 (List.mem_of_getElem? (i := 41) rfl)) rfl
theorem tw_1002 : Cond.code yX5_addText cX5_addText 3 none ∈ TT := tt_of (in_5 (List.mem_of_getElem? (i := 42) rfl)) rfl
theorem tw_1003 : Cond.methodLink RX5 64 yJ0_length_8abf5 ∈ TT := tt_of (in_5 (List.mem_of_getElem? (i := 43) rfl)) rfl
theorem tw_1004 : Cond.methodLink RX5 69 yJ0_charAt_5068e ∈ TT := tt_of (in_5 (List.mem_of_getElem? (i := 44) rfl)) rfl
theorem tw_1005 : Cond.methodLink RX5 35 yX4_known ∈ TT := tt_of (in_5 (List.mem_of_getElem? (i := 45) rfl)) rfl
theorem tw_1010 : Cond.methodLink RL 133 yX10_byteAt ∈ TT := tt_of (in_5 (List.mem_of_getElem? (i := 50) rfl)) rfl
theorem tw_1011 : Cond.instanceMethod yX10_byteAt ∈ TT := tt_of (in_5 (List.mem_of_getElem? (i := 51) rfl)) rfl
theorem tw_1012 : Cond.selects RX10 yX10_byteAt yX10_byteAt ∈ TT := tt_of (in_5 (List.mem_of_getElem? (i := 52) rfl)) rfl
theorem tw_1013 : Cond.code yX10_byteAt cX10_byteAt 2 (some .int) ∈ TT := tt_of (in_5 (List.mem_of_getElem? (i := 53) rfl)) rfl
theorem tw_1014 : Cond.methodLink RX10 292 yX5_signAt ∈ TT := tt_of (in_5 (List.mem_of_getElem? (i := 54) rfl)) rfl
theorem tw_1015 : Cond.instanceMethod yX5_signAt ∈ TT := tt_of (in_5 (List.mem_of_getElem? (i := 55) rfl)) rfl
theorem tw_1016 : Cond.selects RX5 yX5_signAt yX5_signAt ∈ TT := tt_of (in_5 (List.mem_of_getElem? (i := 56) rfl)) rfl
theorem tw_1017 : Cond.code yX5_signAt cX5_signAt 2 (some .int) ∈ TT := tt_of (in_5 (List.mem_of_getElem? (i := 57) rfl)) rfl
theorem tw_1018 : Cond.methodLink RL 137 yX10_drawn ∈ TT := tt_of (in_5 (List.mem_of_getElem? (i := 58) rfl)) rfl
theorem tw_1019 : Cond.instanceMethod yX10_drawn ∈ TT := tt_of (in_5 (List.mem_of_getElem? (i := 59) rfl)) rfl
theorem tw_1020 : Cond.selects RX10 yX10_drawn yX10_drawn ∈ TT := tt_of (in_5 (List.mem_of_getElem? (i := 60) rfl)) rfl
theorem tw_1021 : Cond.code yX10_drawn cX10_drawn 3 (some .int) ∈ TT := tt_of (in_5 (List.mem_of_getElem? (i := 61) rfl)) rfl
theorem tw_1022 : Cond.methodLink RX10 295 yX4_passDrawnDays ∈ TT := tt_of (in_5 (List.mem_of_getElem? (i := 62) rfl)) rfl
theorem tw_1023 : Cond.instanceMethod yX4_passDrawnDays ∈ TT := tt_of (in_5 (List.mem_of_getElem? (i := 63) rfl)) rfl
theorem tw_1024 : Cond.selects RX4 yX4_passDrawnDays yX4_passDrawnDays ∈ TT := tt_of (in_5 (List.mem_of_getElem? (i := 64) rfl)) rfl
theorem tw_1025 : Cond.code yX4_passDrawnDays cX4_passDrawnDays 5 (some .int) ∈ TT := tt_of (in_5 (List.mem_of_getElem? (i := 65) rfl)) rfl
theorem tw_1026 : Cond.methodLink RX4 138 yX4_drawAct ∈ TT := tt_of (in_5 (List.mem_of_getElem? (i := 66) rfl)) rfl
theorem tw_1028 : Cond.instanceMethod yX4_drawAct ∈ TT := tt_of (in_5 (List.mem_of_getElem? (i := 68) rfl)) rfl
theorem tw_1029 : Cond.code yX4_drawAct cX4_drawAct 4 none ∈ TT := tt_of (in_5 (List.mem_of_getElem? (i := 69) rfl)) rfl
theorem tw_1030 : Cond.methodLink RX4 142 yX4_draw ∈ TT := tt_of (in_5 (List.mem_of_getElem? (i := 70) rfl)) rfl
theorem tw_1032 : Cond.instanceMethod yX4_draw ∈ TT := tt_of (in_5 (List.mem_of_getElem? (i := 72) rfl)) rfl
theorem tw_1033 : Cond.code yX4_draw cX4_draw 2 (some .int) ∈ TT := tt_of (in_5 (List.mem_of_getElem? (i := 73) rfl)) rfl
theorem tw_1034 : Cond.constant RX4 171 (1103515245 : Int32) ∈ TT := tt_of (in_5 (List.mem_of_getElem? (i := 74) rfl)) rfl
theorem tw_1035 : Cond.methodLink RX4 145 yX4_drawBuy ∈ TT := tt_of (in_5 (List.mem_of_getElem? (i := 75) rfl)) rfl
theorem tw_1037 : Cond.instanceMethod yX4_drawBuy ∈ TT := tt_of (in_5 (List.mem_of_getElem? (i := 77) rfl)) rfl
theorem tw_1038 : Cond.code yX4_drawBuy cX4_drawBuy 4 none ∈ TT := tt_of (in_5 (List.mem_of_getElem? (i := 78) rfl)) rfl
theorem tw_1039 : Cond.methodLink RX4 163 yX4_whyNotBuy ∈ TT := tt_of (in_5 (List.mem_of_getElem? (i := 79) rfl)) rfl
theorem tw_1040 : Cond.methodLink RX4 167 yX4_doBuy ∈ TT := tt_of (in_5 (List.mem_of_getElem? (i := 80) rfl)) rfl
theorem tw_1041 : Cond.methodLink RX4 148 yX4_whyNotNod ∈ TT := tt_of (in_5 (List.mem_of_getElem? (i := 81) rfl)) rfl
theorem tw_1042 : Cond.methodLink RX4 151 yX4_doNod ∈ TT := tt_of (in_5 (List.mem_of_getElem? (i := 82) rfl)) rfl
theorem tw_1043 : Cond.methodLink RX4 154 yX4_whyNotVeil ∈ TT := tt_of (in_5 (List.mem_of_getElem? (i := 83) rfl)) rfl
theorem tw_1044 : Cond.methodLink RX4 157 yX4_doVeil ∈ TT := tt_of (in_5 (List.mem_of_getElem? (i := 84) rfl)) rfl
theorem tw_1045 : Cond.methodLink RL 141 yX10_odds ∈ TT := tt_of (in_5 (List.mem_of_getElem? (i := 85) rfl)) rfl
theorem tw_1046 : Cond.instanceMethod yX10_odds ∈ TT := tt_of (in_5 (List.mem_of_getElem? (i := 86) rfl)) rfl
theorem tw_1047 : Cond.selects RX10 yX10_odds yX10_odds ∈ TT := tt_of (in_5 (List.mem_of_getElem? (i := 87) rfl)) rfl
theorem tw_1048 : Cond.code yX10_odds cX10_odds 6 (some .int) ∈ TT := tt_of (in_5 (List.mem_of_getElem? (i := 88) rfl)) rfl
theorem tw_1049 : Cond.methodLink RL 145 yX10_book ∈ TT := tt_of (in_5 (List.mem_of_getElem? (i := 89) rfl)) rfl
theorem tw_1050 : Cond.instanceMethod yX10_book ∈ TT := tt_of (in_5 (List.mem_of_getElem? (i := 90) rfl)) rfl
theorem tw_1051 : Cond.selects RX10 yX10_book yX10_book ∈ TT := tt_of (in_5 (List.mem_of_getElem? (i := 91) rfl)) rfl
theorem tw_1052 : Cond.code yX10_book cX10_book 3 (some .int) ∈ TT := tt_of (in_5 (List.mem_of_getElem? (i := 92) rfl)) rfl
theorem tw_1053 : Cond.methodLink RX10 298 yX0_readText ∈ TT := tt_of (in_5 (List.mem_of_getElem? (i := 93) rfl)) rfl
theorem tw_1054 : Cond.instanceMethod yX0_readText ∈ TT := tt_of (in_5 (List.mem_of_getElem? (i := 94) rfl)) rfl
theorem tw_1055 : Cond.selects RX0 yX0_readText yX0_readText ∈ TT := tt_of (in_5 (List.mem_of_getElem? (i := 95) rfl)) rfl
theorem tw_1056 : Cond.code yX0_readText cX0_readText 2 (some .boolean) ∈ TT := tt_of (in_5 (List.mem_of_getElem? (i := 96) rfl)) rfl
theorem tw_1057 : Cond.methodLink RX0 36 yX8_open ∈ TT := tt_of (in_5 (List.mem_of_getElem? (i := 97) rfl)) rfl
theorem tw_1058 : Cond.methodLink RX0 42 yX8_isAtEnd ∈ TT := tt_of (in_5 (List.mem_of_getElem? (i := 98) rfl)) rfl
theorem tw_1059 : Cond.methodLink RX0 46 yX0_readLine ∈ TT := tt_of (in_5 (List.mem_of_getElem? (i := 99) rfl)) rfl
theorem tw_1061 : Cond.instanceMethod yX0_readLine ∈ TT := tt_of (in_5 (List.mem_of_getElem? (i := 101) rfl)) rfl
theorem tw_1062 : Cond.code yX0_readLine cX0_readLine 3 (some .boolean) ∈ TT := tt_of (in_5 (List.mem_of_getElem? (i := 102) rfl)) rfl
theorem tw_1063 : Cond.methodLink RX0 58 yX8_personHere ∈ TT := tt_of (in_5 (List.mem_of_getElem? (i := 103) rfl)) rfl
theorem tw_1064 : Cond.methodLink RX0 62 yX8_refuse ∈ TT := tt_of (in_5 (List.mem_of_getElem? (i := 104) rfl)) rfl
theorem tw_1065 : Cond.methodLink RX0 65 yX8_next ∈ TT := tt_of (in_5 (List.mem_of_getElem? (i := 105) rfl)) rfl
theorem tw_1066 : Cond.methodLink RX0 68 yX8_passNumber ∈ TT := tt_of (in_5 (List.mem_of_getElem? (i := 106) rfl)) rfl
theorem tw_1067 : Cond.methodLink RX0 72 yX0_readAct ∈ TT := tt_of (in_5 (List.mem_of_getElem? (i := 107) rfl)) rfl
theorem tw_1069 : Cond.instanceMethod yX0_readAct ∈ TT := tt_of (in_5 (List.mem_of_getElem? (i := 109) rfl)) rfl
theorem tw_1070 : Cond.code yX0_readAct cX0_readAct 2 (some .boolean) ∈ TT := tt_of (in_5 (List.mem_of_getElem? (i := 110) rfl)) rfl
theorem tw_1071 : Cond.methodLink RX0 75 yX8_passGood ∈ TT := tt_of (in_5 (List.mem_of_getElem? (i := 111) rfl)) rfl
theorem tw_1072 : Cond.instanceMethod yX8_passGood ∈ TT := tt_of (in_5 (List.mem_of_getElem? (i := 112) rfl)) rfl
theorem tw_1073 : Cond.selects RX8 yX8_passGood yX8_passGood ∈ TT := tt_of (in_5 (List.mem_of_getElem? (i := 113) rfl)) rfl
theorem tw_1074 : Cond.code yX8_passGood cX8_passGood 3 (some .int) ∈ TT := tt_of (in_5 (List.mem_of_getElem? (i := 114) rfl)) rfl
theorem tw_1075 : Cond.methodLink RX8 110 yX8_goodHere ∈ TT := tt_of (in_5 (List.mem_of_getElem? (i := 115) rfl)) rfl
theorem tw_1076 : Cond.methodLink RX0 78 yX8_passPerson ∈ TT := tt_of (in_5 (List.mem_of_getElem? (i := 116) rfl)) rfl
theorem tw_1077 : Cond.methodLink RX0 49 yX8_passSign ∈ TT := tt_of (in_5 (List.mem_of_getElem? (i := 117) rfl)) rfl
theorem tw_1078 : Cond.methodLink RX0 53 yX8_passEnd ∈ TT := tt_of (in_5 (List.mem_of_getElem? (i := 118) rfl)) rfl
theorem tw_1079 : Cond.methodLink RX10 300 yX0_judge ∈ TT := tt_of (in_5 (List.mem_of_getElem? (i := 119) rfl)) rfl
theorem tw_1080 : Cond.instanceMethod yX0_judge ∈ TT := tt_of (in_5 (List.mem_of_getElem? (i := 120) rfl)) rfl
theorem tw_1081 : Cond.selects RX0 yX0_judge yX0_judge ∈ TT := tt_of (in_5 (List.mem_of_getElem? (i := 121) rfl)) rfl
theorem tw_1082 : Cond.code yX0_judge cX0_judge 2 none ∈ TT := tt_of (in_5 (List.mem_of_getElem? (i := 122) rfl)) rfl
theorem tw_1083 : Cond.methodLink RX0 91 yX0_liveLine ∈ TT := tt_of (in_5 (List.mem_of_getElem? (i := 123) rfl)) rfl
theorem tw_1085 : Cond.instanceMethod yX0_liveLine ∈ TT := tt_of (in_5 (List.mem_of_getElem? (i := 125) rfl)) rfl
theorem tw_1086 : Cond.code yX0_liveLine cX0_liveLine 3 (some .int) ∈ TT := tt_of (in_5 (List.mem_of_getElem? (i := 126) rfl)) rfl
theorem tw_1087 : Cond.methodLink RX0 110 yX0_liveBuy ∈ TT := tt_of (in_5 (List.mem_of_getElem? (i := 127) rfl)) rfl
theorem tw_1088 : Cond.static yX0_liveBuy ∈ TT := tt_of (in_5 (List.mem_of_getElem? (i := 128) rfl)) rfl
theorem tw_1089 : Cond.code yX0_liveBuy cX0_liveBuy 5 (some .int) ∈ TT := tt_of (in_5 (List.mem_of_getElem? (i := 129) rfl)) rfl
theorem tw_1090 : Cond.methodLink RX0 127 yX4_whyNotBuy ∈ TT := tt_of (in_5 (List.mem_of_getElem? (i := 130) rfl)) rfl
theorem tw_1091 : Cond.methodLink RX0 131 yX4_doBuy ∈ TT := tt_of (in_5 (List.mem_of_getElem? (i := 131) rfl)) rfl
theorem tw_1092 : Cond.methodLink RX0 114 yX0_liveNod ∈ TT := tt_of (in_5 (List.mem_of_getElem? (i := 132) rfl)) rfl
theorem tw_1093 : Cond.static yX0_liveNod ∈ TT := tt_of (in_5 (List.mem_of_getElem? (i := 133) rfl)) rfl
theorem tw_1094 : Cond.code yX0_liveNod cX0_liveNod 4 (some .int) ∈ TT := tt_of (in_5 (List.mem_of_getElem? (i := 134) rfl)) rfl
theorem tw_1095 : Cond.methodLink RX0 135 yX4_whyNotNod ∈ TT := tt_of (in_5 (List.mem_of_getElem? (i := 135) rfl)) rfl
theorem tw_1096 : Cond.methodLink RX0 138 yX4_doNod ∈ TT := tt_of (in_5 (List.mem_of_getElem? (i := 136) rfl)) rfl
theorem tw_1097 : Cond.methodLink RX0 118 yX0_liveVeil ∈ TT := tt_of (in_5 (List.mem_of_getElem? (i := 137) rfl)) rfl
theorem tw_1098 : Cond.static yX0_liveVeil ∈ TT := tt_of (in_5 (List.mem_of_getElem? (i := 138) rfl)) rfl
theorem tw_1099 : Cond.code yX0_liveVeil cX0_liveVeil 3 (some .int) ∈ TT := tt_of (in_5 (List.mem_of_getElem? (i := 139) rfl)) rfl
theorem tw_1100 : Cond.methodLink RX0 142 yX4_whyNotVeil ∈ TT := tt_of (in_5 (List.mem_of_getElem? (i := 140) rfl)) rfl
theorem tw_1101 : Cond.methodLink RX0 146 yX4_doVeil ∈ TT := tt_of (in_5 (List.mem_of_getElem? (i := 141) rfl)) rfl
theorem tw_1102 : Cond.methodLink RX0 121 yX0_liveTell ∈ TT := tt_of (in_5 (List.mem_of_getElem? (i := 142) rfl)) rfl
theorem tw_1103 : Cond.static yX0_liveTell ∈ TT := tt_of (in_5 (List.mem_of_getElem? (i := 143) rfl)) rfl
theorem tw_1104 : Cond.code yX0_liveTell cX0_liveTell 5 (some .int) ∈ TT := tt_of (in_5 (List.mem_of_getElem? (i := 144) rfl)) rfl
theorem tw_1105 : Cond.methodLink RX0 149 yX4_whyNotTell ∈ TT := tt_of (in_5 (List.mem_of_getElem? (i := 145) rfl)) rfl
theorem tw_1106 : Cond.methodLink RX0 152 yX4_meet ∈ TT := tt_of (in_5 (List.mem_of_getElem? (i := 146) rfl)) rfl
theorem tw_1107 : Cond.methodLink RX0 124 yX0_liveDays ∈ TT := tt_of (in_5 (List.mem_of_getElem? (i := 147) rfl)) rfl
theorem tw_1108 : Cond.static yX0_liveDays ∈ TT := tt_of (in_5 (List.mem_of_getElem? (i := 148) rfl)) rfl
theorem tw_1109 : Cond.code yX0_liveDays cX0_liveDays 2 (some .int) ∈ TT := tt_of (in_5 (List.mem_of_getElem? (i := 149) rfl)) rfl
theorem tw_1110 : Cond.methodLink RX0 155 yX4_passDays ∈ TT := tt_of (in_5 (List.mem_of_getElem? (i := 150) rfl)) rfl
theorem tw_1111 : Cond.methodLink RX0 103 yX4_fed ∈ TT := tt_of (in_5 (List.mem_of_getElem? (i := 151) rfl)) rfl
theorem tw_1112 : Cond.methodLink RL 149 yX10_told ∈ TT := tt_of (in_5 (List.mem_of_getElem? (i := 152) rfl)) rfl
theorem tw_1113 : Cond.instanceMethod yX10_told ∈ TT := tt_of (in_5 (List.mem_of_getElem? (i := 153) rfl)) rfl
theorem tw_1114 : Cond.selects RX10 yX10_told yX10_told ∈ TT := tt_of (in_5 (List.mem_of_getElem? (i := 154) rfl)) rfl
theorem tw_1115 : Cond.code yX10_told cX10_told 2 (some .int) ∈ TT := tt_of (in_5 (List.mem_of_getElem? (i := 155) rfl)) rfl
theorem tw_1116 : Cond.methodLink RL 153 yX10_sentence ∈ TT := tt_of (in_5 (List.mem_of_getElem? (i := 156) rfl)) rfl
theorem tw_1117 : Cond.instanceMethod yX10_sentence ∈ TT := tt_of (in_5 (List.mem_of_getElem? (i := 157) rfl)) rfl
theorem tw_1118 : Cond.selects RX10 yX10_sentence yX10_sentence ∈ TT := tt_of (in_5 (List.mem_of_getElem? (i := 158) rfl)) rfl
theorem tw_1119 : Cond.code yX10_sentence cX10_sentence 2 (some .int) ∈ TT := tt_of (in_5 (List.mem_of_getElem? (i := 159) rfl)) rfl
theorem tw_1120 : Cond.methodLink RX10 319 yX7_readText ∈ TT := tt_of (in_5 (List.mem_of_getElem? (i := 160) rfl)) rfl
theorem tw_1121 : Cond.instanceMethod yX7_readText ∈ TT := tt_of (in_5 (List.mem_of_getElem? (i := 161) rfl)) rfl
theorem tw_1122 : Cond.selects RX7 yX7_readText yX7_readText ∈ TT := tt_of (in_5 (List.mem_of_getElem? (i := 162) rfl)) rfl
theorem tw_1123 : Cond.code yX7_readText cX7_readText 1 (some .boolean) ∈ TT := tt_of (in_5 (List.mem_of_getElem? (i := 163) rfl)) rfl
theorem tw_1124 : Cond.methodLink RX7 26 yX6_clear ∈ TT := tt_of (in_5 (List.mem_of_getElem? (i := 164) rfl)) rfl
theorem tw_1125 : Cond.methodLink RX7 29 yX8_open ∈ TT := tt_of (in_5 (List.mem_of_getElem? (i := 165) rfl)) rfl
theorem tw_1126 : Cond.methodLink RX7 35 yX7_readCond ∈ TT := tt_of (in_5 (List.mem_of_getElem? (i := 166) rfl)) rfl
theorem tw_1128 : Cond.instanceMethod yX7_readCond ∈ TT := tt_of (in_5 (List.mem_of_getElem? (i := 168) rfl)) rfl
theorem tw_1129 : Cond.code yX7_readCond cX7_readCond 5 (some .boolean) ∈ TT := tt_of (in_5 (List.mem_of_getElem? (i := 169) rfl)) rfl
theorem tw_1130 : Cond.methodLink RX7 43 yX7_readOne ∈ TT := tt_of (in_5 (List.mem_of_getElem? (i := 170) rfl)) rfl
theorem tw_1132 : Cond.instanceMethod yX7_readOne ∈ TT := tt_of (in_5 (List.mem_of_getElem? (i := 172) rfl)) rfl
theorem tw_1133 : Cond.code yX7_readOne cX7_readOne 4 (some .boolean) ∈ TT := tt_of (in_5 (List.mem_of_getElem? (i := 173) rfl)) rfl
theorem tw_1134 : Cond.methodLink RX7 60 yX7_beginsOne ∈ TT := tt_of (in_5 (List.mem_of_getElem? (i := 174) rfl)) rfl
theorem tw_1135 : Cond.static yX7_beginsOne ∈ TT := tt_of (in_5 (List.mem_of_getElem? (i := 175) rfl)) rfl
theorem tw_1136 : Cond.code yX7_beginsOne cX7_beginsOne 1 (some .boolean) ∈ TT := tt_of (in_5 (List.mem_of_getElem? (i := 176) rfl)) rfl
theorem tw_1137 : Cond.methodLink RX7 63 yX8_refuse ∈ TT := tt_of (in_5 (List.mem_of_getElem? (i := 177) rfl)) rfl
theorem tw_1138 : Cond.methodLink RX7 54 yX8_next ∈ TT := tt_of (in_5 (List.mem_of_getElem? (i := 178) rfl)) rfl
theorem tw_1139 : Cond.methodLink RX7 69 yX8_passSign ∈ TT := tt_of (in_5 (List.mem_of_getElem? (i := 179) rfl)) rfl
theorem tw_1140 : Cond.methodLink RX7 72 yX7_readPlain ∈ TT := tt_of (in_5 (List.mem_of_getElem? (i := 180) rfl)) rfl
theorem tw_1142 : Cond.instanceMethod yX7_readPlain ∈ TT := tt_of (in_5 (List.mem_of_getElem? (i := 182) rfl)) rfl
theorem tw_1143 : Cond.code yX7_readPlain cX7_readPlain 4 (some .boolean) ∈ TT := tt_of (in_5 (List.mem_of_getElem? (i := 183) rfl)) rfl
theorem tw_1144 : Cond.methodLink RX7 46 yX6_addStep ∈ TT := tt_of (in_5 (List.mem_of_getElem? (i := 184) rfl)) rfl
theorem tw_1145 : Cond.instanceMethod yX6_addStep ∈ TT := tt_of (in_5 (List.mem_of_getElem? (i := 185) rfl)) rfl
theorem tw_1146 : Cond.selects RX6 yX6_addStep yX6_addStep ∈ TT := tt_of (in_5 (List.mem_of_getElem? (i := 186) rfl)) rfl
theorem tw_1147 : Cond.code yX6_addStep cX6_addStep 4 none ∈ TT := tt_of (in_5 (List.mem_of_getElem? (i := 187) rfl)) rfl
theorem tw_1148 : Cond.methodLink RX7 75 yX8_passPerson ∈ TT := tt_of (in_5 (List.mem_of_getElem? (i := 188) rfl)) rfl
theorem tw_1149 : Cond.methodLink RX7 79 yX8_passGood ∈ TT := tt_of (in_5 (List.mem_of_getElem? (i := 189) rfl)) rfl
theorem tw_1150 : Cond.methodLink RX7 82 yX8_passNumber ∈ TT := tt_of (in_5 (List.mem_of_getElem? (i := 190) rfl)) rfl
theorem tw_1151 : Cond.methodLink RX7 39 yX8_passEnd ∈ TT := tt_of (in_5 (List.mem_of_getElem? (i := 191) rfl)) rfl
theorem tw_1152 : Cond.methodLink RX10 322 yX6_copyFrom ∈ TT := tt_of (in_5 (List.mem_of_getElem? (i := 192) rfl)) rfl
theorem tw_1153 : Cond.instanceMethod yX6_copyFrom ∈ TT := tt_of (in_5 (List.mem_of_getElem? (i := 193) rfl)) rfl
theorem tw_1154 : Cond.selects RX6 yX6_copyFrom yX6_copyFrom ∈ TT := tt_of (in_5 (List.mem_of_getElem? (i := 194) rfl)) rfl
theorem tw_1155 : Cond.code yX6_copyFrom cX6_copyFrom 2 none ∈ TT := tt_of (in_5 (List.mem_of_getElem? (i := 195) rfl)) rfl
theorem tw_1156 : Cond.methodLink RX6 31 ⟨"java/lang/System", "arraycopy", "(Ljava/lang/Object;ILjava/lang/Object;II)V"⟩ ∈ TT := tt_of (in_5 (List.mem_of_getElem? (i := 196) rfl)) rfl
theorem tw_1157 : Cond.methodLink RL 157 yX10_said ∈ TT := tt_of (in_5 (List.mem_of_getElem? (i := 197) rfl)) rfl
theorem tw_1158 : Cond.instanceMethod yX10_said ∈ TT := tt_of (in_5 (List.mem_of_getElem? (i := 198) rfl)) rfl
theorem tw_1159 : Cond.selects RX10 yX10_said yX10_said ∈ TT := tt_of (in_5 (List.mem_of_getElem? (i := 199) rfl)) rfl
theorem tw_1160 : Cond.code yX10_said cX10_said 3 (some .int) ∈ TT := tt_of (in_5 (List.mem_of_getElem? (i := 200) rfl)) rfl
theorem tw_1161 : Cond.methodLink RX10 328 yX6_trueOf ∈ TT := tt_of (in_5 (List.mem_of_getElem? (i := 201) rfl)) rfl
theorem tw_1162 : Cond.instanceMethod yX6_trueOf ∈ TT := tt_of (in_5 (List.mem_of_getElem? (i := 202) rfl)) rfl
theorem tw_1163 : Cond.selects RX6 yX6_trueOf yX6_trueOf ∈ TT := tt_of (in_5 (List.mem_of_getElem? (i := 203) rfl)) rfl
theorem tw_1164 : Cond.code yX6_trueOf cX6_trueOf 5 (some .int) ∈ TT := tt_of (in_5 (List.mem_of_getElem? (i := 204) rfl)) rfl
theorem tw_1165 : Cond.methodLink RX6 37 yX1_everyone ∈ TT := tt_of (in_5 (List.mem_of_getElem? (i := 205) rfl)) rfl
theorem tw_1166 : Cond.methodLink RX6 43 yX6_trueOfStep ∈ TT := tt_of (in_5 (List.mem_of_getElem? (i := 206) rfl)) rfl
theorem tw_1168 : Cond.instanceMethod yX6_trueOfStep ∈ TT := tt_of (in_5 (List.mem_of_getElem? (i := 208) rfl)) rfl
theorem tw_1169 : Cond.code yX6_trueOfStep cX6_trueOfStep 6 (some .int) ∈ TT := tt_of (in_5 (List.mem_of_getElem? (i := 209) rfl)) rfl
theorem tw_1170 : Cond.methodLink RX6 50 yX6_isTrue ∈ TT := tt_of (in_5 (List.mem_of_getElem? (i := 210) rfl)) rfl
theorem tw_1172 : Cond.instanceMethod yX6_isTrue ∈ TT := tt_of (in_5 (List.mem_of_getElem? (i := 212) rfl)) rfl
theorem tw_1173 : Cond.code yX6_isTrue cX6_isTrue 4 (some .boolean) ∈ TT := tt_of (in_5 (List.mem_of_getElem? (i := 213) rfl)) rfl
theorem tw_1175 : Cond.methodLink RX6 66 yX4_wanting ∈ TT := tt_of (in_5 (List.mem_of_getElem? (i := 215) rfl)) rfl
theorem tw_1176 : Cond.methodLink RX6 70 yX4_isSoldOut ∈ TT := tt_of (in_5 (List.mem_of_getElem? (i := 216) rfl)) rfl
theorem tw_1177 : Cond.instanceMethod yX4_isSoldOut ∈ TT := tt_of (in_5 (List.mem_of_getElem? (i := 217) rfl)) rfl
theorem tw_1178 : Cond.selects RX4 yX4_isSoldOut yX4_isSoldOut ∈ TT := tt_of (in_5 (List.mem_of_getElem? (i := 218) rfl)) rfl
theorem tw_1179 : Cond.code yX4_isSoldOut cX4_isSoldOut 5 (some .boolean) ∈ TT := tt_of (in_5 (List.mem_of_getElem? (i := 219) rfl)) rfl
theorem tw_1180 : Cond.methodLink RX6 74 yX4_known ∈ TT := tt_of (in_5 (List.mem_of_getElem? (i := 220) rfl)) rfl
theorem tw_1182 : Cond.methodLink RX6 87 yX6_compares ∈ TT := tt_of (in_5 (List.mem_of_getElem? (i := 222) rfl)) rfl
theorem tw_1184 : Cond.instanceMethod yX6_compares ∈ TT := tt_of (in_5 (List.mem_of_getElem? (i := 224) rfl)) rfl
theorem tw_1185 : Cond.code yX6_compares cX6_compares 3 (some .boolean) ∈ TT := tt_of (in_5 (List.mem_of_getElem? (i := 225) rfl)) rfl
theorem tw_1186 : Cond.methodLink RX6 90 yJ6_bitCount_0f7a4 ∈ TT := tt_of (in_5 (List.mem_of_getElem? (i := 226) rfl)) rfl
theorem tw_1187 : Cond.methodLink RX10 332 yJ6_bitCount_0f7a4 ∈ TT := tt_of (in_5 (List.mem_of_getElem? (i := 227) rfl)) rfl
theorem tw_1188 : Cond.methodLink RX10 337 yX10_bitAt ∈ TT := tt_of (in_5 (List.mem_of_getElem? (i := 228) rfl)) rfl
theorem tw_1189 : Cond.methodLink RL 161 yX10_image ∈ TT := tt_of (in_5 (List.mem_of_getElem? (i := 229) rfl)) rfl
theorem tw_1190 : Cond.instanceMethod yX10_image ∈ TT := tt_of (in_5 (List.mem_of_getElem? (i := 230) rfl)) rfl
theorem tw_1191 : Cond.selects RX10 yX10_image yX10_image ∈ TT := tt_of (in_5 (List.mem_of_getElem? (i := 231) rfl)) rfl
theorem tw_1192 : Cond.code yX10_image cX10_image 3 (some .boolean) ∈ TT := tt_of (in_5 (List.mem_of_getElem? (i := 232) rfl)) rfl
theorem tw_1193 : Cond.methodLink RL 165 yX10_restore ∈ TT := tt_of (in_5 (List.mem_of_getElem? (i := 233) rfl)) rfl
theorem tw_1194 : Cond.instanceMethod yX10_restore ∈ TT := tt_of (in_5 (List.mem_of_getElem? (i := 234) rfl)) rfl
theorem tw_1195 : Cond.selects RX10 yX10_restore yX10_restore ∈ TT := tt_of (in_5 (List.mem_of_getElem? (i := 235) rfl)) rfl
theorem tw_1196 : Cond.code yX10_restore cX10_restore 3 (some .boolean) ∈ TT := tt_of (in_5 (List.mem_of_getElem? (i := 236) rfl)) rfl
theorem tw_1197 : Cond.methodLink RL 169 yX10_count ∈ TT := tt_of (in_5 (List.mem_of_getElem? (i := 237) rfl)) rfl
theorem tw_1198 : Cond.instanceMethod yX10_count ∈ TT := tt_of (in_5 (List.mem_of_getElem? (i := 238) rfl)) rfl
theorem tw_1199 : Cond.selects RX10 yX10_count yX10_count ∈ TT := tt_of (in_5 (List.mem_of_getElem? (i := 239) rfl)) rfl
theorem tw_1200 : Cond.code yX10_count cX10_count 2 (some .int) ∈ TT := tt_of (in_6 (List.mem_of_getElem? (i := 0) rfl)) rfl
theorem tw_1201 : Cond.methodLink RL 38 yL_person ∈ TT := tt_of (in_6 (List.mem_of_getElem? (i := 1) rfl)) rfl
theorem tw_1202 : Cond.static yL_person ∈ TT := tt_of (in_6 (List.mem_of_getElem? (i := 2) rfl)) rfl
theorem tw_1204 : Cond.classLink RL 13 "java/util/NoSuchElementException" ∈ TT := tt_of (in_6 (List.mem_of_getElem? (i := 4) rfl)) rfl
theorem tw_1205 : Cond.methodLink RL 7 yX10_person ∈ TT := tt_of (in_6 (List.mem_of_getElem? (i := 5) rfl)) rfl
theorem tw_1206 : Cond.instanceMethod yX10_person ∈ TT := tt_of (in_6 (List.mem_of_getElem? (i := 6) rfl)) rfl
theorem tw_1207 : Cond.selects RX10 yX10_person yX10_person ∈ TT := tt_of (in_6 (List.mem_of_getElem? (i := 7) rfl)) rfl
theorem tw_1208 : Cond.code yX10_person cX10_person 3 (some .int) ∈ TT := tt_of (in_6 (List.mem_of_getElem? (i := 8) rfl)) rfl
theorem tw_1209 : Cond.classLink RX10 138 "java/util/NoSuchElementException" ∈ TT := tt_of (in_6 (List.mem_of_getElem? (i := 9) rfl)) rfl
theorem tw_1210 : Cond.instantiable "java/util/NoSuchElementException" 6 ∈ TT := tt_of (in_6 (List.mem_of_getElem? (i := 10) rfl)) rfl
theorem tw_1218 : Cond.selects "java/util/NoSuchElementException" ⟨"java/lang/Throwable", "fillInStackTrace", "(I)Ljava/lang/Throwable;"⟩ ⟨"java/lang/Throwable", "fillInStackTrace", "(I)Ljava/lang/Throwable;"⟩ ∈ TT := tt_of (in_6 (List.mem_of_getElem? (i := 18) rfl)) rfl
theorem tw_1219 : Cond.selects "java/util/NoSuchElementException" ⟨"java/lang/Throwable", "fillInStackTrace", "()Ljava/lang/Throwable;"⟩ ⟨"java/lang/Throwable", "fillInStackTrace", "()Ljava/lang/Throwable;"⟩ ∈ TT := tt_of (in_6 (List.mem_of_getElem? (i := 19) rfl)) rfl
theorem tw_1230 : Cond.fieldLink "java/lang/Throwable" 198 "java/lang/Throwable" "backtrace" "Ljava/lang/Object;" ∈ TT := tt_of (in_6 (List.mem_of_getElem? (i := 30) rfl)) rfl
theorem tw_1232 : Cond.instanceMethod ⟨"java/lang/Throwable", "<init>", "()V"⟩ ∈ TT := tt_of (in_6 (List.mem_of_getElem? (i := 32) rfl)) rfl
theorem tw_1233 : Cond.code ⟨"java/lang/Throwable", "<init>", "()V"⟩ prog_25_method_1_code 1 none ∈ TT := tt_of (in_6 (List.mem_of_getElem? (i := 33) rfl)) rfl
theorem tw_1234 : Cond.methodLink "java/lang/Throwable" 1 ⟨"java/lang/Object", "<init>", "()V"⟩ ∈ TT := tt_of (in_6 (List.mem_of_getElem? (i := 34) rfl)) rfl
theorem tw_1235 : Cond.fieldLink "java/lang/Throwable" 13 "java/lang/Throwable" "UNASSIGNED_STACK" "[Ljava/lang/StackTraceElement;" ∈ TT := tt_of (in_6 (List.mem_of_getElem? (i := 35) rfl)) rfl
theorem tw_1237 : Cond.fieldLink "java/lang/Throwable" 20 "java/lang/Throwable" "SUPPRESSED_SENTINEL" "Ljava/util/List;" ∈ TT := tt_of (in_6 (List.mem_of_getElem? (i := 37) rfl)) rfl
theorem tw_1239 : Cond.methodLink "java/lang/Throwable" 27 ⟨"java/lang/Throwable", "fillInStackTrace", "()Ljava/lang/Throwable;"⟩ ∈ TT := tt_of (in_6 (List.mem_of_getElem? (i := 39) rfl)) rfl
theorem tw_1240 : Cond.instanceMethod ⟨"java/lang/Throwable", "fillInStackTrace", "()Ljava/lang/Throwable;"⟩ ∈ TT := tt_of (in_6 (List.mem_of_getElem? (i := 40) rfl)) rfl
theorem tw_1243 : Cond.methodLink "java/lang/Throwable" 202 ⟨"java/lang/Throwable", "fillInStackTrace", "(I)Ljava/lang/Throwable;"⟩ ∈ TT := tt_of (in_6 (List.mem_of_getElem? (i := 43) rfl)) rfl
theorem tw_1245 : Cond.instanceMethod ⟨"java/lang/Throwable", "fillInStackTrace", "(I)Ljava/lang/Throwable;"⟩ ∈ TT := tt_of (in_6 (List.mem_of_getElem? (i := 45) rfl)) rfl
theorem tw_1246 : Cond.instantiable "java/lang/Throwable" 6 ∈ TT := tt_of (in_6 (List.mem_of_getElem? (i := 46) rfl)) rfl
theorem tw_1247 : Cond.native ⟨"java/lang/Throwable", "fillInStackTrace", "(I)Ljava/lang/Throwable;"⟩ ∈ TT := tt_of (in_6 (List.mem_of_getElem? (i := 47) rfl)) rfl
theorem tw_1248 : Cond.methodLink RX10 140 ⟨"java/util/NoSuchElementException", "<init>", "()V"⟩ ∈ TT := tt_of (in_6 (List.mem_of_getElem? (i := 48) rfl)) rfl
theorem tw_1249 : Cond.instanceMethod ⟨"java/util/NoSuchElementException", "<init>", "()V"⟩ ∈ TT := tt_of (in_6 (List.mem_of_getElem? (i := 49) rfl)) rfl
theorem tw_1250 : Cond.code ⟨"java/util/NoSuchElementException", "<init>", "()V"⟩ prog_29_method_1_code 1 none ∈ TT := tt_of (in_6 (List.mem_of_getElem? (i := 50) rfl)) rfl
theorem tw_1251 : Cond.methodLink "java/util/NoSuchElementException" 1 ⟨"java/lang/RuntimeException", "<init>", "()V"⟩ ∈ TT := tt_of (in_6 (List.mem_of_getElem? (i := 51) rfl)) rfl
theorem tw_1252 : Cond.instanceMethod ⟨"java/lang/RuntimeException", "<init>", "()V"⟩ ∈ TT := tt_of (in_6 (List.mem_of_getElem? (i := 52) rfl)) rfl
theorem tw_1253 : Cond.code ⟨"java/lang/RuntimeException", "<init>", "()V"⟩ prog_20_method_1_code 1 none ∈ TT := tt_of (in_6 (List.mem_of_getElem? (i := 53) rfl)) rfl
theorem tw_1254 : Cond.methodLink "java/lang/RuntimeException" 1 ⟨"java/lang/Exception", "<init>", "()V"⟩ ∈ TT := tt_of (in_6 (List.mem_of_getElem? (i := 54) rfl)) rfl
theorem tw_1255 : Cond.instanceMethod ⟨"java/lang/Exception", "<init>", "()V"⟩ ∈ TT := tt_of (in_6 (List.mem_of_getElem? (i := 55) rfl)) rfl
theorem tw_1256 : Cond.code ⟨"java/lang/Exception", "<init>", "()V"⟩ prog_17_method_1_code 1 none ∈ TT := tt_of (in_6 (List.mem_of_getElem? (i := 56) rfl)) rfl
theorem tw_1257 : Cond.methodLink "java/lang/Exception" 1 ⟨"java/lang/Throwable", "<init>", "()V"⟩ ∈ TT := tt_of (in_6 (List.mem_of_getElem? (i := 57) rfl)) rfl
theorem tw_1258 : Cond.fieldLink "java/lang/Throwable" 198 "java/lang/Throwable" "backtrace" "Ljava/lang/Object;" ∈ TT := tt_of (in_6 (List.mem_of_getElem? (i := 58) rfl)) rfl
theorem tw_1259 : Cond.fieldLink "java/lang/Throwable" 7 "java/lang/Throwable" "cause" "Ljava/lang/Throwable;" ∈ TT := tt_of (in_6 (List.mem_of_getElem? (i := 59) rfl)) rfl
theorem tw_1260 : Cond.fieldLink "java/lang/Throwable" 17 "java/lang/Throwable" "stackTrace" "[Ljava/lang/StackTraceElement;" ∈ TT := tt_of (in_6 (List.mem_of_getElem? (i := 60) rfl)) rfl
theorem tw_1261 : Cond.fieldLink "java/lang/Throwable" 24 "java/lang/Throwable" "suppressedExceptions" "Ljava/util/List;" ∈ TT := tt_of (in_6 (List.mem_of_getElem? (i := 61) rfl)) rfl
theorem tw_1270 : Cond.methodLink RX10 152 yX4_dealable ∈ TT := tt_of (in_6 (List.mem_of_getElem? (i := 70) rfl)) rfl
theorem tw_1271 : Cond.methodLink RX10 164 yX4_wanting ∈ TT := tt_of (in_6 (List.mem_of_getElem? (i := 71) rfl)) rfl
theorem tw_1272 : Cond.methodLink RL 44 yX11_thrown ∈ TT := tt_of (in_6 (List.mem_of_getElem? (i := 72) rfl)) rfl
theorem tw_1273 : Cond.instanceMethod yX11_thrown ∈ TT := tt_of (in_6 (List.mem_of_getElem? (i := 73) rfl)) rfl
theorem tw_1274 : Cond.selects RX11 yX11_thrown yX11_thrown ∈ TT := tt_of (in_6 (List.mem_of_getElem? (i := 74) rfl)) rfl
theorem tw_1275 : Cond.code yX11_thrown cX11_thrown 1 (some .int) ∈ TT := tt_of (in_6 (List.mem_of_getElem? (i := 75) rfl)) rfl
theorem tw_1276 : Cond.methodLink RL 23 yX11_feed ∈ TT := tt_of (in_6 (List.mem_of_getElem? (i := 76) rfl)) rfl
theorem tw_1277 : Cond.instanceMethod yX11_feed ∈ TT := tt_of (in_6 (List.mem_of_getElem? (i := 77) rfl)) rfl
theorem tw_1278 : Cond.selects RX11 yX11_feed yX11_feed ∈ TT := tt_of (in_6 (List.mem_of_getElem? (i := 78) rfl)) rfl
theorem tw_1279 : Cond.code yX11_feed cX11_feed 6 (some .int) ∈ TT := tt_of (in_6 (List.mem_of_getElem? (i := 79) rfl)) rfl
theorem tw_1280 : Cond.methodLink RX11 10 yX11_four ∈ TT := tt_of (in_6 (List.mem_of_getElem? (i := 80) rfl)) rfl
theorem tw_1282 : Cond.instanceMethod yX11_four ∈ TT := tt_of (in_6 (List.mem_of_getElem? (i := 82) rfl)) rfl
theorem tw_1283 : Cond.instantiable RX11 52 ∈ TT := tt_of (in_6 (List.mem_of_getElem? (i := 83) rfl)) rfl
theorem tw_1284 : Cond.code yX11_four cX11_four 3 none ∈ TT := tt_of (in_6 (List.mem_of_getElem? (i := 84) rfl)) rfl
theorem tw_1285 : Cond.methodLink RL 28 yX11_end ∈ TT := tt_of (in_6 (List.mem_of_getElem? (i := 85) rfl)) rfl
theorem tw_1286 : Cond.instanceMethod yX11_end ∈ TT := tt_of (in_6 (List.mem_of_getElem? (i := 86) rfl)) rfl
theorem tw_1287 : Cond.selects RX11 yX11_end yX11_end ∈ TT := tt_of (in_6 (List.mem_of_getElem? (i := 87) rfl)) rfl
theorem tw_1288 : Cond.code yX11_end cX11_end 2 (some .boolean) ∈ TT := tt_of (in_6 (List.mem_of_getElem? (i := 88) rfl)) rfl
theorem tw_1289 : Cond.classLink RL 16 RX11 ∈ TT := tt_of (in_6 (List.mem_of_getElem? (i := 89) rfl)) rfl
theorem tw_1290 : Cond.methodLink RL 18 yX11_init ∈ TT := tt_of (in_6 (List.mem_of_getElem? (i := 90) rfl)) rfl
theorem tw_1291 : Cond.instanceMethod yX11_init ∈ TT := tt_of (in_6 (List.mem_of_getElem? (i := 91) rfl)) rfl
theorem tw_1292 : Cond.code yX11_init cX11_init 2 none ∈ TT := tt_of (in_6 (List.mem_of_getElem? (i := 92) rfl)) rfl
theorem tw_1293 : Cond.methodLink RX11 27 ⟨"java/lang/Object", "<init>", "()V"⟩ ∈ TT := tt_of (in_6 (List.mem_of_getElem? (i := 93) rfl)) rfl
theorem tw_1294 : Cond.constantLong RX11 96 (123581014175598 : Int64) ∈ TT := tt_of (in_6 (List.mem_of_getElem? (i := 94) rfl)) rfl
theorem tw_1295 : Cond.constantLong RX11 98 (1735356260 : Int64) ∈ TT := tt_of (in_6 (List.mem_of_getElem? (i := 95) rfl)) rfl
theorem tw_1296 : Cond.constantLong RX11 100 (495622843507 : Int64) ∈ TT := tt_of (in_6 (List.mem_of_getElem? (i := 96) rfl)) rfl
theorem tw_1297 : Cond.constantLong RX11 102 (512735736947 : Int64) ∈ TT := tt_of (in_6 (List.mem_of_getElem? (i := 97) rfl)) rfl
theorem tw_1298 : Cond.constantLong RX11 104 (461414299507 : Int64) ∈ TT := tt_of (in_6 (List.mem_of_getElem? (i := 98) rfl)) rfl
theorem tw_1299 : Cond.constantLong RX11 106 (1718576499 : Int64) ∈ TT := tt_of (in_6 (List.mem_of_getElem? (i := 99) rfl)) rfl
theorem tw_1300 : Cond.constantLong RX11 108 (431197613171 : Int64) ∈ TT := tt_of (in_6 (List.mem_of_getElem? (i := 100) rfl)) rfl
theorem tw_1301 : Cond.constantLong RX11 110 (508507548787 : Int64) ∈ TT := tt_of (in_6 (List.mem_of_getElem? (i := 101) rfl)) rfl
theorem tw_1302 : Cond.constantLong RX11 112 (1650814060 : Int64) ∈ TT := tt_of (in_6 (List.mem_of_getElem? (i := 102) rfl)) rfl
theorem tw_1303 : Cond.constantLong RX11 114 (1651865971 : Int64) ∈ TT := tt_of (in_6 (List.mem_of_getElem? (i := 103) rfl)) rfl
theorem tw_1304 : Cond.constantLong RX11 116 (1852793971 : Int64) ∈ TT := tt_of (in_6 (List.mem_of_getElem? (i := 104) rfl)) rfl
theorem tw_1305 : Cond.constantLong RX11 118 (499917810803 : Int64) ∈ TT := tt_of (in_6 (List.mem_of_getElem? (i := 105) rfl)) rfl
theorem tw_1306 : Cond.constantLong RX11 120 (6578553 : Int64) ∈ TT := tt_of (in_6 (List.mem_of_getElem? (i := 106) rfl)) rfl
theorem tw_1307 : Cond.constantLong RX11 122 (28530 : Int64) ∈ TT := tt_of (in_6 (List.mem_of_getElem? (i := 107) rfl)) rfl
theorem tw_1308 : Cond.constantLong RX11 124 (6385252 : Int64) ∈ TT := tt_of (in_6 (List.mem_of_getElem? (i := 108) rfl)) rfl
theorem tw_1309 : Cond.constantLong RX11 126 (7237492 : Int64) ∈ TT := tt_of (in_6 (List.mem_of_getElem? (i := 109) rfl)) rfl
theorem tw_1310 : Cond.constantLong RX11 128 (1752132965 : Int64) ∈ TT := tt_of (in_6 (List.mem_of_getElem? (i := 110) rfl)) rfl
theorem tw_1311 : Cond.constantLong RX11 130 (130177932485988 : Int64) ∈ TT := tt_of (in_6 (List.mem_of_getElem? (i := 111) rfl)) rfl
theorem tw_1312 : Cond.constantLong RX11 132 (6710628 : Int64) ∈ TT := tt_of (in_6 (List.mem_of_getElem? (i := 112) rfl)) rfl
theorem tw_1313 : Cond.constantLong RX11 134 (1936682084 : Int64) ∈ TT := tt_of (in_6 (List.mem_of_getElem? (i := 113) rfl)) rfl
theorem tw_1314 : Cond.constantLong RX11 136 (427070942835 : Int64) ∈ TT := tt_of (in_6 (List.mem_of_getElem? (i := 114) rfl)) rfl
theorem tw_1315 : Cond.constantLong RX11 138 (28836244623352947 : Int64) ∈ TT := tt_of (in_6 (List.mem_of_getElem? (i := 115) rfl)) rfl
theorem tw_1316 : Cond.constantLong RX11 140 (114853572732274 : Int64) ∈ TT := tt_of (in_6 (List.mem_of_getElem? (i := 116) rfl)) rfl
theorem tw_1317 : Cond.constantLong RX11 142 (121450625394034 : Int64) ∈ TT := tt_of (in_6 (List.mem_of_getElem? (i := 117) rfl)) rfl
theorem tw_1318 : Cond.methodLink RX11 144 yX11_clears ∈ TT := tt_of (in_6 (List.mem_of_getElem? (i := 118) rfl)) rfl
theorem tw_1320 : Cond.instanceMethod yX11_clears ∈ TT := tt_of (in_6 (List.mem_of_getElem? (i := 120) rfl)) rfl
theorem tw_1321 : Cond.code yX11_clears cX11_clears 2 none ∈ TT := tt_of (in_6 (List.mem_of_getElem? (i := 121) rfl)) rfl
theorem tw_1322 : Cond.fieldLink RX11 1 "StrangerMarketModel" "thrown" "I" ∈ TT := tt_of (in_6 (List.mem_of_getElem? (i := 122) rfl)) rfl
theorem tw_1323 : Cond.fieldLink RX11 14 "StrangerMarketModel" "tape" "[B" ∈ TT := tt_of (in_6 (List.mem_of_getElem? (i := 123) rfl)) rfl
theorem tw_1324 : Cond.fieldLink RX11 7 "StrangerMarketModel" "length" "I" ∈ TT := tt_of (in_6 (List.mem_of_getElem? (i := 124) rfl)) rfl
theorem tw_1325 : Cond.fieldLink RX11 18 "StrangerMarketModel" "size" "I" ∈ TT := tt_of (in_6 (List.mem_of_getElem? (i := 125) rfl)) rfl
theorem tw_1326 : Cond.fieldLink RX11 21 "StrangerMarketModel" "p" "I" ∈ TT := tt_of (in_6 (List.mem_of_getElem? (i := 126) rfl)) rfl
theorem tw_1327 : Cond.fieldLink RX11 24 "StrangerMarketModel" "limit" "I" ∈ TT := tt_of (in_6 (List.mem_of_getElem? (i := 127) rfl)) rfl
theorem tw_1328 : Cond.fieldLink RX11 33 "StrangerMarketModel" "s" "[I" ∈ TT := tt_of (in_6 (List.mem_of_getElem? (i := 128) rfl)) rfl
theorem tw_1329 : Cond.fieldLink RX11 37 "StrangerMarketModel" "h" "[I" ∈ TT := tt_of (in_6 (List.mem_of_getElem? (i := 129) rfl)) rfl
theorem tw_1330 : Cond.fieldLink RX11 40 "StrangerMarketModel" "read" "[I" ∈ TT := tt_of (in_6 (List.mem_of_getElem? (i := 130) rfl)) rfl
theorem tw_1331 : Cond.fieldLink RX11 43 "StrangerMarketModel" "names" "[J" ∈ TT := tt_of (in_6 (List.mem_of_getElem? (i := 131) rfl)) rfl
theorem tw_1332 : Cond.fieldLink RX11 47 "StrangerMarketModel" "reserved" "[J" ∈ TT := tt_of (in_6 (List.mem_of_getElem? (i := 132) rfl)) rfl
theorem tw_1333 : Cond.fieldLink RX11 157 "StrangerMarketModel" "token" "I" ∈ TT := tt_of (in_6 (List.mem_of_getElem? (i := 133) rfl)) rfl
theorem tw_1334 : Cond.fieldLink RX11 151 "StrangerMarketModel" "at" "I" ∈ TT := tt_of (in_6 (List.mem_of_getElem? (i := 134) rfl)) rfl
theorem tw_1335 : Cond.fieldLink RX11 154 "StrangerMarketModel" "span" "I" ∈ TT := tt_of (in_6 (List.mem_of_getElem? (i := 135) rfl)) rfl
theorem tw_1336 : Cond.fieldLink RX11 167 "StrangerMarketModel" "number" "I" ∈ TT := tt_of (in_6 (List.mem_of_getElem? (i := 136) rfl)) rfl
theorem tw_1337 : Cond.fieldLink RX11 174 "StrangerMarketModel" "fault" "I" ∈ TT := tt_of (in_6 (List.mem_of_getElem? (i := 137) rfl)) rfl
theorem tw_1338 : Cond.fieldLink RX11 177 "StrangerMarketModel" "faultAt" "I" ∈ TT := tt_of (in_6 (List.mem_of_getElem? (i := 138) rfl)) rfl
theorem tw_1339 : Cond.fieldLink RX11 170 "StrangerMarketModel" "word" "J" ∈ TT := tt_of (in_6 (List.mem_of_getElem? (i := 139) rfl)) rfl
theorem tw_1340 : Cond.fieldLink RX11 193 "StrangerMarketModel" "got" "I" ∈ TT := tt_of (in_6 (List.mem_of_getElem? (i := 140) rfl)) rfl
theorem tw_1341 : Cond.fieldLink RX11 250 "StrangerMarketModel" "lines" "I" ∈ TT := tt_of (in_6 (List.mem_of_getElem? (i := 141) rfl)) rfl
theorem tw_1342 : Cond.fieldLink RX11 211 "StrangerMarketModel" "onces" "I" ∈ TT := tt_of (in_6 (List.mem_of_getElem? (i := 142) rfl)) rfl
theorem tw_1343 : Cond.fieldLink RX11 50 "StrangerMarketModel" "undone" "[I" ∈ TT := tt_of (in_6 (List.mem_of_getElem? (i := 143) rfl)) rfl
theorem tw_1344 : Cond.fieldLink RX11 53 "StrangerMarketModel" "before" "[I" ∈ TT := tt_of (in_6 (List.mem_of_getElem? (i := 144) rfl)) rfl
theorem tw_1345 : Cond.fieldLink RX11 262 "StrangerMarketModel" "undoMany" "I" ∈ TT := tt_of (in_6 (List.mem_of_getElem? (i := 145) rfl)) rfl
theorem tw_1346 : Cond.fieldLink RX11 56 "StrangerMarketModel" "room" "[I" ∈ TT := tt_of (in_6 (List.mem_of_getElem? (i := 146) rfl)) rfl
theorem tw_1347 : Cond.fieldLink RX11 59 "StrangerMarketModel" "came" "[I" ∈ TT := tt_of (in_6 (List.mem_of_getElem? (i := 147) rfl)) rfl
theorem tw_1348 : Cond.fieldLink RX11 62 "StrangerMarketModel" "queue" "[I" ∈ TT := tt_of (in_6 (List.mem_of_getElem? (i := 148) rfl)) rfl
theorem tw_1349 : Cond.fieldLink RX11 355 "StrangerMarketModel" "askPerson" "I" ∈ TT := tt_of (in_6 (List.mem_of_getElem? (i := 149) rfl)) rfl
theorem tw_1350 : Cond.fieldLink RX11 351 "StrangerMarketModel" "hasWho" "Z" ∈ TT := tt_of (in_6 (List.mem_of_getElem? (i := 150) rfl)) rfl
theorem tw_1351 : Cond.fieldLink RX11 364 "StrangerMarketModel" "serveSet" "I" ∈ TT := tt_of (in_6 (List.mem_of_getElem? (i := 151) rfl)) rfl
theorem tw_1352 : Cond.fieldLink RX11 361 "StrangerMarketModel" "hasServe" "Z" ∈ TT := tt_of (in_6 (List.mem_of_getElem? (i := 152) rfl)) rfl
theorem tw_1353 : Cond.fieldLink RX11 65 "StrangerMarketModel" "steps" "[I" ∈ TT := tt_of (in_6 (List.mem_of_getElem? (i := 153) rfl)) rfl
theorem tw_1354 : Cond.fieldLink RX11 68 "StrangerMarketModel" "chainRow" "[I" ∈ TT := tt_of (in_6 (List.mem_of_getElem? (i := 154) rfl)) rfl
theorem tw_1355 : Cond.fieldLink RX11 71 "StrangerMarketModel" "chainMany" "I" ∈ TT := tt_of (in_6 (List.mem_of_getElem? (i := 155) rfl)) rfl
theorem tw_1356 : Cond.fieldLink RX11 379 "StrangerMarketModel" "partSet" "I" ∈ TT := tt_of (in_6 (List.mem_of_getElem? (i := 156) rfl)) rfl
theorem tw_1357 : Cond.fieldLink RX11 376 "StrangerMarketModel" "hasPart" "Z" ∈ TT := tt_of (in_6 (List.mem_of_getElem? (i := 157) rfl)) rfl
theorem tw_1358 : Cond.fieldLink RX11 74 "StrangerMarketModel" "text" "[B" ∈ TT := tt_of (in_6 (List.mem_of_getElem? (i := 158) rfl)) rfl
theorem tw_1359 : Cond.fieldLink RX11 382 "StrangerMarketModel" "textMany" "I" ∈ TT := tt_of (in_6 (List.mem_of_getElem? (i := 159) rfl)) rfl
theorem tw_1360 : Cond.fieldLink RX11 399 "StrangerMarketModel" "seed" "I" ∈ TT := tt_of (in_6 (List.mem_of_getElem? (i := 160) rfl)) rfl
theorem tw_1361 : Cond.fieldLink RX11 418 "StrangerMarketModel" "toldMany" "I" ∈ TT := tt_of (in_6 (List.mem_of_getElem? (i := 161) rfl)) rfl
theorem tw_1362 : Cond.fieldLink RX11 77 "StrangerMarketModel" "toldAt" "[I" ∈ TT := tt_of (in_6 (List.mem_of_getElem? (i := 162) rfl)) rfl
theorem tw_1363 : Cond.fieldLink RX11 428 "StrangerMarketModel" "hasTold" "Z" ∈ TT := tt_of (in_6 (List.mem_of_getElem? (i := 163) rfl)) rfl
theorem tw_1364 : Cond.fieldLink RX11 80 "StrangerMarketModel" "stack" "[I" ∈ TT := tt_of (in_6 (List.mem_of_getElem? (i := 164) rfl)) rfl
theorem tw_1365 : Cond.fieldLink RX11 431 "StrangerMarketModel" "codes" "I" ∈ TT := tt_of (in_6 (List.mem_of_getElem? (i := 165) rfl)) rfl
theorem tw_1366 : Cond.fieldLink RX11 446 "StrangerMarketModel" "ones" "I" ∈ TT := tt_of (in_6 (List.mem_of_getElem? (i := 166) rfl)) rfl
theorem tw_1367 : Cond.fieldLink RX11 434 "StrangerMarketModel" "top" "I" ∈ TT := tt_of (in_6 (List.mem_of_getElem? (i := 167) rfl)) rfl
theorem tw_1368 : Cond.fieldLink RX11 440 "StrangerMarketModel" "deep" "I" ∈ TT := tt_of (in_6 (List.mem_of_getElem? (i := 168) rfl)) rfl
theorem tw_1369 : Cond.fieldLink RX11 449 "StrangerMarketModel" "isWhole" "Z" ∈ TT := tt_of (in_6 (List.mem_of_getElem? (i := 169) rfl)) rfl
theorem tw_1370 : Cond.fieldLink RX11 83 "StrangerMarketModel" "truths" "[Z" ∈ TT := tt_of (in_6 (List.mem_of_getElem? (i := 170) rfl)) rfl
theorem tw_1371 : Cond.fieldLink RX11 87 "StrangerMarketModel" "imaged" "[I" ∈ TT := tt_of (in_6 (List.mem_of_getElem? (i := 171) rfl)) rfl
theorem tw_1372 : Cond.fieldLink RX11 90 "StrangerMarketModel" "namesKept" "[J" ∈ TT := tt_of (in_6 (List.mem_of_getElem? (i := 172) rfl)) rfl
theorem tw_1373 : Cond.fieldLink RX11 93 "StrangerMarketModel" "areKept" "[Z" ∈ TT := tt_of (in_6 (List.mem_of_getElem? (i := 173) rfl)) rfl
theorem tw_1479 : Cond.arrayClass .boolean ∈ TT := tt_of (in_7 (List.mem_of_getElem? (i := 39) rfl)) rfl
theorem tw_1480 : Cond.methodLink RL 33 yX11_county ∈ TT := tt_of (in_7 (List.mem_of_getElem? (i := 40) rfl)) rfl
theorem tw_1481 : Cond.instanceMethod yX11_county ∈ TT := tt_of (in_7 (List.mem_of_getElem? (i := 41) rfl)) rfl
theorem tw_1482 : Cond.selects RX11 yX11_county yX11_county ∈ TT := tt_of (in_7 (List.mem_of_getElem? (i := 42) rfl)) rfl
theorem tw_1483 : Cond.code yX11_county cX11_county 2 (some .int) ∈ TT := tt_of (in_7 (List.mem_of_getElem? (i := 43) rfl)) rfl
theorem tw_1484 : Cond.methodLink RX11 247 yX11_taken ∈ TT := tt_of (in_7 (List.mem_of_getElem? (i := 44) rfl)) rfl
theorem tw_1486 : Cond.instanceMethod yX11_taken ∈ TT := tt_of (in_7 (List.mem_of_getElem? (i := 46) rfl)) rfl
theorem tw_1487 : Cond.code yX11_taken cX11_taken 2 none ∈ TT := tt_of (in_7 (List.mem_of_getElem? (i := 47) rfl)) rfl
theorem tw_1488 : Cond.methodLink RX11 186 yX11_next ∈ TT := tt_of (in_7 (List.mem_of_getElem? (i := 48) rfl)) rfl
theorem tw_1490 : Cond.instanceMethod yX11_next ∈ TT := tt_of (in_7 (List.mem_of_getElem? (i := 50) rfl)) rfl
theorem tw_1491 : Cond.code yX11_next cX11_next 4 none ∈ TT := tt_of (in_7 (List.mem_of_getElem? (i := 51) rfl)) rfl
theorem tw_1492 : Cond.methodLink RX11 147 yX11_peek ∈ TT := tt_of (in_7 (List.mem_of_getElem? (i := 52) rfl)) rfl
theorem tw_1494 : Cond.instanceMethod yX11_peek ∈ TT := tt_of (in_7 (List.mem_of_getElem? (i := 54) rfl)) rfl
theorem tw_1495 : Cond.code yX11_peek cX11_peek 1 (some .int) ∈ TT := tt_of (in_7 (List.mem_of_getElem? (i := 55) rfl)) rfl
theorem tw_1496 : Cond.methodLink RX11 160 yX11_isSmall ∈ TT := tt_of (in_7 (List.mem_of_getElem? (i := 56) rfl)) rfl
theorem tw_1497 : Cond.static yX11_isSmall ∈ TT := tt_of (in_7 (List.mem_of_getElem? (i := 57) rfl)) rfl
theorem tw_1498 : Cond.code yX11_isSmall cX11_isSmall 1 (some .boolean) ∈ TT := tt_of (in_7 (List.mem_of_getElem? (i := 58) rfl)) rfl
theorem tw_1499 : Cond.methodLink RX11 164 yX11_isDigit ∈ TT := tt_of (in_7 (List.mem_of_getElem? (i := 59) rfl)) rfl
theorem tw_1500 : Cond.static yX11_isDigit ∈ TT := tt_of (in_7 (List.mem_of_getElem? (i := 60) rfl)) rfl
theorem tw_1501 : Cond.code yX11_isDigit cX11_isDigit 1 (some .boolean) ∈ TT := tt_of (in_7 (List.mem_of_getElem? (i := 61) rfl)) rfl
theorem tw_1502 : Cond.methodLink RX11 253 yX11_line ∈ TT := tt_of (in_7 (List.mem_of_getElem? (i := 62) rfl)) rfl
theorem tw_1504 : Cond.instanceMethod yX11_line ∈ TT := tt_of (in_7 (List.mem_of_getElem? (i := 64) rfl)) rfl
theorem tw_1505 : Cond.code yX11_line cX11_line 1 (some .boolean) ∈ TT := tt_of (in_7 (List.mem_of_getElem? (i := 65) rfl)) rfl
theorem tw_1506 : Cond.methodLink RX11 220 yX11_isWord ∈ TT := tt_of (in_7 (List.mem_of_getElem? (i := 66) rfl)) rfl
theorem tw_1508 : Cond.instanceMethod yX11_isWord ∈ TT := tt_of (in_7 (List.mem_of_getElem? (i := 68) rfl)) rfl
theorem tw_1509 : Cond.code yX11_isWord cX11_isWord 3 (some .boolean) ∈ TT := tt_of (in_7 (List.mem_of_getElem? (i := 69) rfl)) rfl
theorem tw_1510 : Cond.methodLink RX11 224 yX11_readPerson ∈ TT := tt_of (in_7 (List.mem_of_getElem? (i := 70) rfl)) rfl
theorem tw_1512 : Cond.instanceMethod yX11_readPerson ∈ TT := tt_of (in_7 (List.mem_of_getElem? (i := 72) rfl)) rfl
theorem tw_1513 : Cond.code yX11_readPerson cX11_readPerson 2 (some .boolean) ∈ TT := tt_of (in_7 (List.mem_of_getElem? (i := 73) rfl)) rfl
theorem tw_1514 : Cond.methodLink RX11 183 yX11_bad ∈ TT := tt_of (in_7 (List.mem_of_getElem? (i := 74) rfl)) rfl
theorem tw_1516 : Cond.instanceMethod yX11_bad ∈ TT := tt_of (in_7 (List.mem_of_getElem? (i := 76) rfl)) rfl
theorem tw_1517 : Cond.code yX11_bad cX11_bad 2 (some .boolean) ∈ TT := tt_of (in_7 (List.mem_of_getElem? (i := 77) rfl)) rfl
theorem tw_1518 : Cond.methodLink RX11 241 yX11_fresh ∈ TT := tt_of (in_7 (List.mem_of_getElem? (i := 78) rfl)) rfl
theorem tw_1520 : Cond.instanceMethod yX11_fresh ∈ TT := tt_of (in_7 (List.mem_of_getElem? (i := 80) rfl)) rfl
theorem tw_1521 : Cond.code yX11_fresh cX11_fresh 2 (some .boolean) ∈ TT := tt_of (in_7 (List.mem_of_getElem? (i := 81) rfl)) rfl
theorem tw_1522 : Cond.methodLink RX11 200 yX11_isName ∈ TT := tt_of (in_7 (List.mem_of_getElem? (i := 82) rfl)) rfl
theorem tw_1524 : Cond.instanceMethod yX11_isName ∈ TT := tt_of (in_7 (List.mem_of_getElem? (i := 84) rfl)) rfl
theorem tw_1525 : Cond.code yX11_isName cX11_isName 3 (some .boolean) ∈ TT := tt_of (in_7 (List.mem_of_getElem? (i := 85) rfl)) rfl
theorem tw_1526 : Cond.methodLink RX11 204 yX11_seek ∈ TT := tt_of (in_7 (List.mem_of_getElem? (i := 86) rfl)) rfl
theorem tw_1528 : Cond.instanceMethod yX11_seek ∈ TT := tt_of (in_7 (List.mem_of_getElem? (i := 88) rfl)) rfl
theorem tw_1529 : Cond.code yX11_seek cX11_seek 4 (some .int) ∈ TT := tt_of (in_7 (List.mem_of_getElem? (i := 89) rfl)) rfl
theorem tw_1530 : Cond.methodLink RX11 217 yX11_puts ∈ TT := tt_of (in_7 (List.mem_of_getElem? (i := 90) rfl)) rfl
theorem tw_1532 : Cond.instanceMethod yX11_puts ∈ TT := tt_of (in_7 (List.mem_of_getElem? (i := 92) rfl)) rfl
theorem tw_1533 : Cond.code yX11_puts cX11_puts 4 (some .boolean) ∈ TT := tt_of (in_7 (List.mem_of_getElem? (i := 93) rfl)) rfl
theorem tw_1534 : Cond.methodLink RX11 196 yX11_takes ∈ TT := tt_of (in_7 (List.mem_of_getElem? (i := 94) rfl)) rfl
theorem tw_1536 : Cond.instanceMethod yX11_takes ∈ TT := tt_of (in_7 (List.mem_of_getElem? (i := 96) rfl)) rfl
theorem tw_1537 : Cond.code yX11_takes cX11_takes 3 (some .boolean) ∈ TT := tt_of (in_7 (List.mem_of_getElem? (i := 97) rfl)) rfl
theorem tw_1538 : Cond.methodLink RX11 189 yX11_isIn ∈ TT := tt_of (in_7 (List.mem_of_getElem? (i := 98) rfl)) rfl
theorem tw_1539 : Cond.static yX11_isIn ∈ TT := tt_of (in_7 (List.mem_of_getElem? (i := 99) rfl)) rfl
theorem tw_1540 : Cond.code yX11_isIn cX11_isIn 3 (some .boolean) ∈ TT := tt_of (in_7 (List.mem_of_getElem? (i := 100) rfl)) rfl
theorem tw_1541 : Cond.methodLink RX11 227 yX11_readGood ∈ TT := tt_of (in_7 (List.mem_of_getElem? (i := 101) rfl)) rfl
theorem tw_1543 : Cond.instanceMethod yX11_readGood ∈ TT := tt_of (in_7 (List.mem_of_getElem? (i := 103) rfl)) rfl
theorem tw_1544 : Cond.code yX11_readGood cX11_readGood 2 (some .boolean) ∈ TT := tt_of (in_7 (List.mem_of_getElem? (i := 104) rfl)) rfl
theorem tw_1545 : Cond.methodLink RX11 230 yX11_readTrade ∈ TT := tt_of (in_7 (List.mem_of_getElem? (i := 105) rfl)) rfl
theorem tw_1547 : Cond.instanceMethod yX11_readTrade ∈ TT := tt_of (in_7 (List.mem_of_getElem? (i := 107) rfl)) rfl
theorem tw_1548 : Cond.code yX11_readTrade cX11_readTrade 3 (some .boolean) ∈ TT := tt_of (in_7 (List.mem_of_getElem? (i := 108) rfl)) rfl
theorem tw_1549 : Cond.methodLink RX11 244 yX11_takesName ∈ TT := tt_of (in_7 (List.mem_of_getElem? (i := 109) rfl)) rfl
theorem tw_1551 : Cond.instanceMethod yX11_takesName ∈ TT := tt_of (in_7 (List.mem_of_getElem? (i := 111) rfl)) rfl
theorem tw_1552 : Cond.code yX11_takesName cX11_takesName 3 (some .boolean) ∈ TT := tt_of (in_7 (List.mem_of_getElem? (i := 112) rfl)) rfl
theorem tw_1553 : Cond.methodLink RX11 208 yX11_looksAt ∈ TT := tt_of (in_7 (List.mem_of_getElem? (i := 113) rfl)) rfl
theorem tw_1555 : Cond.instanceMethod yX11_looksAt ∈ TT := tt_of (in_7 (List.mem_of_getElem? (i := 115) rfl)) rfl
theorem tw_1556 : Cond.code yX11_looksAt cX11_looksAt 3 (some .boolean) ∈ TT := tt_of (in_7 (List.mem_of_getElem? (i := 116) rfl)) rfl
theorem tw_1557 : Cond.methodLink RX11 234 yX11_readPair ∈ TT := tt_of (in_7 (List.mem_of_getElem? (i := 117) rfl)) rfl
theorem tw_1559 : Cond.instanceMethod yX11_readPair ∈ TT := tt_of (in_7 (List.mem_of_getElem? (i := 119) rfl)) rfl
theorem tw_1560 : Cond.code yX11_readPair cX11_readPair 3 (some .boolean) ∈ TT := tt_of (in_7 (List.mem_of_getElem? (i := 120) rfl)) rfl
theorem tw_1561 : Cond.methodLink RX11 214 yX11_bitOf ∈ TT := tt_of (in_7 (List.mem_of_getElem? (i := 121) rfl)) rfl
theorem tw_1562 : Cond.static yX11_bitOf ∈ TT := tt_of (in_7 (List.mem_of_getElem? (i := 122) rfl)) rfl
theorem tw_1563 : Cond.code yX11_bitOf cX11_bitOf 2 (some .boolean) ∈ TT := tt_of (in_7 (List.mem_of_getElem? (i := 123) rfl)) rfl
theorem tw_1564 : Cond.methodLink RX11 237 yX11_once ∈ TT := tt_of (in_7 (List.mem_of_getElem? (i := 124) rfl)) rfl
theorem tw_1566 : Cond.instanceMethod yX11_once ∈ TT := tt_of (in_7 (List.mem_of_getElem? (i := 126) rfl)) rfl
theorem tw_1567 : Cond.code yX11_once cX11_once 5 (some .boolean) ∈ TT := tt_of (in_7 (List.mem_of_getElem? (i := 127) rfl)) rfl
theorem tw_1568 : Cond.methodLink RX11 256 yX11_sign ∈ TT := tt_of (in_7 (List.mem_of_getElem? (i := 128) rfl)) rfl
theorem tw_1570 : Cond.instanceMethod yX11_sign ∈ TT := tt_of (in_7 (List.mem_of_getElem? (i := 130) rfl)) rfl
theorem tw_1571 : Cond.code yX11_sign cX11_sign 2 (some .boolean) ∈ TT := tt_of (in_7 (List.mem_of_getElem? (i := 131) rfl)) rfl
theorem tw_1572 : Cond.methodLink RX11 180 yX11_isSign ∈ TT := tt_of (in_7 (List.mem_of_getElem? (i := 132) rfl)) rfl
theorem tw_1574 : Cond.instanceMethod yX11_isSign ∈ TT := tt_of (in_7 (List.mem_of_getElem? (i := 134) rfl)) rfl
theorem tw_1575 : Cond.code yX11_isSign cX11_isSign 2 (some .boolean) ∈ TT := tt_of (in_7 (List.mem_of_getElem? (i := 135) rfl)) rfl
theorem tw_1576 : Cond.methodLink RX11 259 yX11_morning ∈ TT := tt_of (in_7 (List.mem_of_getElem? (i := 136) rfl)) rfl
theorem tw_1578 : Cond.instanceMethod yX11_morning ∈ TT := tt_of (in_7 (List.mem_of_getElem? (i := 138) rfl)) rfl
theorem tw_1579 : Cond.code yX11_morning cX11_morning 2 none ∈ TT := tt_of (in_7 (List.mem_of_getElem? (i := 139) rfl)) rfl
theorem tw_1580 : Cond.methodLink RL 37 yX11_fault ∈ TT := tt_of (in_7 (List.mem_of_getElem? (i := 140) rfl)) rfl
theorem tw_1581 : Cond.instanceMethod yX11_fault ∈ TT := tt_of (in_7 (List.mem_of_getElem? (i := 141) rfl)) rfl
theorem tw_1582 : Cond.selects RX11 yX11_fault yX11_fault ∈ TT := tt_of (in_7 (List.mem_of_getElem? (i := 142) rfl)) rfl
theorem tw_1583 : Cond.code yX11_fault cX11_fault 1 (some .int) ∈ TT := tt_of (in_7 (List.mem_of_getElem? (i := 143) rfl)) rfl
theorem tw_1584 : Cond.methodLink RL 43 yX11_person ∈ TT := tt_of (in_7 (List.mem_of_getElem? (i := 144) rfl)) rfl
theorem tw_1585 : Cond.instanceMethod yX11_person ∈ TT := tt_of (in_7 (List.mem_of_getElem? (i := 145) rfl)) rfl
theorem tw_1586 : Cond.selects RX11 yX11_person yX11_person ∈ TT := tt_of (in_7 (List.mem_of_getElem? (i := 146) rfl)) rfl
theorem tw_1587 : Cond.code yX11_person cX11_person 3 (some .int) ∈ TT := tt_of (in_7 (List.mem_of_getElem? (i := 147) rfl)) rfl
theorem tw_1588 : Cond.methodLink RX11 272 yX11_isPerson ∈ TT := tt_of (in_7 (List.mem_of_getElem? (i := 148) rfl)) rfl
theorem tw_1590 : Cond.instanceMethod yX11_isPerson ∈ TT := tt_of (in_7 (List.mem_of_getElem? (i := 150) rfl)) rfl
theorem tw_1591 : Cond.code yX11_isPerson cX11_isPerson 2 (some .boolean) ∈ TT := tt_of (in_7 (List.mem_of_getElem? (i := 151) rfl)) rfl
theorem tw_1592 : Cond.methodLink RX11 275 yX11_throwsIf ∈ TT := tt_of (in_7 (List.mem_of_getElem? (i := 152) rfl)) rfl
theorem tw_1594 : Cond.instanceMethod yX11_throwsIf ∈ TT := tt_of (in_7 (List.mem_of_getElem? (i := 154) rfl)) rfl
theorem tw_1595 : Cond.code yX11_throwsIf cX11_throwsIf 2 (some .boolean) ∈ TT := tt_of (in_7 (List.mem_of_getElem? (i := 155) rfl)) rfl
theorem tw_1596 : Cond.methodLink RX11 265 yX11_knownBy ∈ TT := tt_of (in_7 (List.mem_of_getElem? (i := 156) rfl)) rfl
theorem tw_1598 : Cond.instanceMethod yX11_knownBy ∈ TT := tt_of (in_7 (List.mem_of_getElem? (i := 158) rfl)) rfl
theorem tw_1599 : Cond.code yX11_knownBy cX11_knownBy 2 (some .int) ∈ TT := tt_of (in_7 (List.mem_of_getElem? (i := 159) rfl)) rfl
theorem tw_1600 : Cond.methodLink RX11 278 yX11_mayBy ∈ TT := tt_of (in_7 (List.mem_of_getElem? (i := 160) rfl)) rfl
theorem tw_1602 : Cond.instanceMethod yX11_mayBy ∈ TT := tt_of (in_7 (List.mem_of_getElem? (i := 162) rfl)) rfl
theorem tw_1603 : Cond.code yX11_mayBy cX11_mayBy 2 (some .int) ∈ TT := tt_of (in_7 (List.mem_of_getElem? (i := 163) rfl)) rfl
theorem tw_1604 : Cond.methodLink RX11 269 yX11_wantsOf ∈ TT := tt_of (in_7 (List.mem_of_getElem? (i := 164) rfl)) rfl
theorem tw_1606 : Cond.instanceMethod yX11_wantsOf ∈ TT := tt_of (in_7 (List.mem_of_getElem? (i := 166) rfl)) rfl
theorem tw_1607 : Cond.code yX11_wantsOf cX11_wantsOf 4 (some .int) ∈ TT := tt_of (in_7 (List.mem_of_getElem? (i := 167) rfl)) rfl
theorem tw_1608 : Cond.methodLink RL 51 yX11_good ∈ TT := tt_of (in_7 (List.mem_of_getElem? (i := 168) rfl)) rfl
theorem tw_1609 : Cond.instanceMethod yX11_good ∈ TT := tt_of (in_7 (List.mem_of_getElem? (i := 169) rfl)) rfl
theorem tw_1610 : Cond.selects RX11 yX11_good yX11_good ∈ TT := tt_of (in_7 (List.mem_of_getElem? (i := 170) rfl)) rfl
theorem tw_1611 : Cond.code yX11_good cX11_good 5 (some .int) ∈ TT := tt_of (in_7 (List.mem_of_getElem? (i := 171) rfl)) rfl
theorem tw_1612 : Cond.methodLink RX11 281 yX11_isGood ∈ TT := tt_of (in_7 (List.mem_of_getElem? (i := 172) rfl)) rfl
theorem tw_1614 : Cond.instanceMethod yX11_isGood ∈ TT := tt_of (in_7 (List.mem_of_getElem? (i := 174) rfl)) rfl
theorem tw_1615 : Cond.code yX11_isGood cX11_isGood 2 (some .boolean) ∈ TT := tt_of (in_7 (List.mem_of_getElem? (i := 175) rfl)) rfl
theorem tw_1616 : Cond.methodLink RL 55 yX11_deals ∈ TT := tt_of (in_7 (List.mem_of_getElem? (i := 176) rfl)) rfl
theorem tw_1617 : Cond.instanceMethod yX11_deals ∈ TT := tt_of (in_7 (List.mem_of_getElem? (i := 177) rfl)) rfl
theorem tw_1618 : Cond.selects RX11 yX11_deals yX11_deals ∈ TT := tt_of (in_7 (List.mem_of_getElem? (i := 178) rfl)) rfl
theorem tw_1619 : Cond.code yX11_deals cX11_deals 3 (some .int) ∈ TT := tt_of (in_7 (List.mem_of_getElem? (i := 179) rfl)) rfl
theorem tw_1620 : Cond.methodLink RL 60 yX11_now ∈ TT := tt_of (in_7 (List.mem_of_getElem? (i := 180) rfl)) rfl
theorem tw_1621 : Cond.instanceMethod yX11_now ∈ TT := tt_of (in_7 (List.mem_of_getElem? (i := 181) rfl)) rfl
theorem tw_1622 : Cond.selects RX11 yX11_now yX11_now ∈ TT := tt_of (in_7 (List.mem_of_getElem? (i := 182) rfl)) rfl
theorem tw_1623 : Cond.code yX11_now cX11_now 5 (some .int) ∈ TT := tt_of (in_7 (List.mem_of_getElem? (i := 183) rfl)) rfl
theorem tw_1624 : Cond.methodLink RX11 284 yX11_bits ∈ TT := tt_of (in_7 (List.mem_of_getElem? (i := 184) rfl)) rfl
theorem tw_1625 : Cond.static yX11_bits ∈ TT := tt_of (in_7 (List.mem_of_getElem? (i := 185) rfl)) rfl
theorem tw_1626 : Cond.code yX11_bits cX11_bits 3 (some .int) ∈ TT := tt_of (in_7 (List.mem_of_getElem? (i := 186) rfl)) rfl
theorem tw_1627 : Cond.methodLink RX11 287 yX11_fed ∈ TT := tt_of (in_7 (List.mem_of_getElem? (i := 187) rfl)) rfl
theorem tw_1629 : Cond.instanceMethod yX11_fed ∈ TT := tt_of (in_7 (List.mem_of_getElem? (i := 189) rfl)) rfl
theorem tw_1630 : Cond.code yX11_fed cX11_fed 3 (some .int) ∈ TT := tt_of (in_7 (List.mem_of_getElem? (i := 190) rfl)) rfl
theorem tw_1631 : Cond.methodLink RL 64 yX11_buy ∈ TT := tt_of (in_7 (List.mem_of_getElem? (i := 191) rfl)) rfl
theorem tw_1632 : Cond.instanceMethod yX11_buy ∈ TT := tt_of (in_7 (List.mem_of_getElem? (i := 192) rfl)) rfl
theorem tw_1633 : Cond.selects RX11 yX11_buy yX11_buy ∈ TT := tt_of (in_7 (List.mem_of_getElem? (i := 193) rfl)) rfl
theorem tw_1634 : Cond.code yX11_buy cX11_buy 5 (some .int) ∈ TT := tt_of (in_7 (List.mem_of_getElem? (i := 194) rfl)) rfl
theorem tw_1635 : Cond.methodLink RX11 306 yX11_whyBuy ∈ TT := tt_of (in_7 (List.mem_of_getElem? (i := 195) rfl)) rfl
theorem tw_1637 : Cond.instanceMethod yX11_whyBuy ∈ TT := tt_of (in_7 (List.mem_of_getElem? (i := 197) rfl)) rfl
theorem tw_1638 : Cond.code yX11_whyBuy cX11_whyBuy 5 (some .int) ∈ TT := tt_of (in_7 (List.mem_of_getElem? (i := 198) rfl)) rfl
theorem tw_1639 : Cond.methodLink RX11 290 yX11_isHome ∈ TT := tt_of (in_7 (List.mem_of_getElem? (i := 199) rfl)) rfl
theorem tw_1641 : Cond.instanceMethod yX11_isHome ∈ TT := tt_of (in_7 (List.mem_of_getElem? (i := 201) rfl)) rfl
theorem tw_1642 : Cond.code yX11_isHome cX11_isHome 2 (some .boolean) ∈ TT := tt_of (in_7 (List.mem_of_getElem? (i := 202) rfl)) rfl
theorem tw_1643 : Cond.methodLink RX11 293 yX11_isVeiled ∈ TT := tt_of (in_7 (List.mem_of_getElem? (i := 203) rfl)) rfl
theorem tw_1645 : Cond.instanceMethod yX11_isVeiled ∈ TT := tt_of (in_7 (List.mem_of_getElem? (i := 205) rfl)) rfl
theorem tw_1646 : Cond.code yX11_isVeiled cX11_isVeiled 2 (some .boolean) ∈ TT := tt_of (in_7 (List.mem_of_getElem? (i := 206) rfl)) rfl
theorem tw_1647 : Cond.methodLink RX11 310 yX11_keep ∈ TT := tt_of (in_7 (List.mem_of_getElem? (i := 207) rfl)) rfl
theorem tw_1649 : Cond.instanceMethod yX11_keep ∈ TT := tt_of (in_7 (List.mem_of_getElem? (i := 209) rfl)) rfl
theorem tw_1650 : Cond.code yX11_keep cX11_keep 2 none ∈ TT := tt_of (in_7 (List.mem_of_getElem? (i := 210) rfl)) rfl
theorem tw_1651 : Cond.methodLink RX11 313 yX11_buys ∈ TT := tt_of (in_7 (List.mem_of_getElem? (i := 211) rfl)) rfl
theorem tw_1653 : Cond.instanceMethod yX11_buys ∈ TT := tt_of (in_7 (List.mem_of_getElem? (i := 213) rfl)) rfl
theorem tw_1654 : Cond.code yX11_buys cX11_buys 5 none ∈ TT := tt_of (in_7 (List.mem_of_getElem? (i := 214) rfl)) rfl
theorem tw_1655 : Cond.methodLink RX11 296 yX11_meets ∈ TT := tt_of (in_7 (List.mem_of_getElem? (i := 215) rfl)) rfl
theorem tw_1657 : Cond.instanceMethod yX11_meets ∈ TT := tt_of (in_7 (List.mem_of_getElem? (i := 217) rfl)) rfl
theorem tw_1658 : Cond.code yX11_meets cX11_meets 3 none ∈ TT := tt_of (in_7 (List.mem_of_getElem? (i := 218) rfl)) rfl
theorem tw_1659 : Cond.methodLink RL 68 yX11_nod ∈ TT := tt_of (in_7 (List.mem_of_getElem? (i := 219) rfl)) rfl
theorem tw_1660 : Cond.instanceMethod yX11_nod ∈ TT := tt_of (in_7 (List.mem_of_getElem? (i := 220) rfl)) rfl
theorem tw_1661 : Cond.selects RX11 yX11_nod yX11_nod ∈ TT := tt_of (in_7 (List.mem_of_getElem? (i := 221) rfl)) rfl
theorem tw_1662 : Cond.code yX11_nod cX11_nod 4 (some .int) ∈ TT := tt_of (in_7 (List.mem_of_getElem? (i := 222) rfl)) rfl
theorem tw_1663 : Cond.methodLink RX11 317 yX11_whyNod ∈ TT := tt_of (in_7 (List.mem_of_getElem? (i := 223) rfl)) rfl
theorem tw_1665 : Cond.instanceMethod yX11_whyNod ∈ TT := tt_of (in_7 (List.mem_of_getElem? (i := 225) rfl)) rfl
theorem tw_1666 : Cond.code yX11_whyNod cX11_whyNod 3 (some .int) ∈ TT := tt_of (in_7 (List.mem_of_getElem? (i := 226) rfl)) rfl
theorem tw_1667 : Cond.methodLink RX11 320 yX11_nods ∈ TT := tt_of (in_7 (List.mem_of_getElem? (i := 227) rfl)) rfl
theorem tw_1669 : Cond.instanceMethod yX11_nods ∈ TT := tt_of (in_7 (List.mem_of_getElem? (i := 229) rfl)) rfl
theorem tw_1670 : Cond.code yX11_nods cX11_nods 3 none ∈ TT := tt_of (in_7 (List.mem_of_getElem? (i := 230) rfl)) rfl
theorem tw_1671 : Cond.methodLink RL 72 yX11_veil ∈ TT := tt_of (in_7 (List.mem_of_getElem? (i := 231) rfl)) rfl
theorem tw_1672 : Cond.instanceMethod yX11_veil ∈ TT := tt_of (in_7 (List.mem_of_getElem? (i := 232) rfl)) rfl
theorem tw_1673 : Cond.selects RX11 yX11_veil yX11_veil ∈ TT := tt_of (in_7 (List.mem_of_getElem? (i := 233) rfl)) rfl
theorem tw_1674 : Cond.code yX11_veil cX11_veil 3 (some .int) ∈ TT := tt_of (in_7 (List.mem_of_getElem? (i := 234) rfl)) rfl
theorem tw_1675 : Cond.methodLink RX11 323 yX11_whyVeil ∈ TT := tt_of (in_7 (List.mem_of_getElem? (i := 235) rfl)) rfl
theorem tw_1677 : Cond.instanceMethod yX11_whyVeil ∈ TT := tt_of (in_7 (List.mem_of_getElem? (i := 237) rfl)) rfl
theorem tw_1678 : Cond.code yX11_whyVeil cX11_whyVeil 2 (some .int) ∈ TT := tt_of (in_7 (List.mem_of_getElem? (i := 238) rfl)) rfl
theorem tw_1679 : Cond.methodLink RX11 326 yX11_veils ∈ TT := tt_of (in_7 (List.mem_of_getElem? (i := 239) rfl)) rfl
theorem tw_1681 : Cond.instanceMethod yX11_veils ∈ TT := tt_of (in_8 (List.mem_of_getElem? (i := 1) rfl)) rfl
theorem tw_1682 : Cond.code yX11_veils cX11_veils 2 none ∈ TT := tt_of (in_8 (List.mem_of_getElem? (i := 2) rfl)) rfl
theorem tw_1683 : Cond.methodLink RL 76 yX11_tell ∈ TT := tt_of (in_8 (List.mem_of_getElem? (i := 3) rfl)) rfl
theorem tw_1684 : Cond.instanceMethod yX11_tell ∈ TT := tt_of (in_8 (List.mem_of_getElem? (i := 4) rfl)) rfl
theorem tw_1685 : Cond.selects RX11 yX11_tell yX11_tell ∈ TT := tt_of (in_8 (List.mem_of_getElem? (i := 5) rfl)) rfl
theorem tw_1686 : Cond.code yX11_tell cX11_tell 5 (some .int) ∈ TT := tt_of (in_8 (List.mem_of_getElem? (i := 6) rfl)) rfl
theorem tw_1687 : Cond.methodLink RX11 329 yX11_whyTell ∈ TT := tt_of (in_8 (List.mem_of_getElem? (i := 7) rfl)) rfl
theorem tw_1689 : Cond.instanceMethod yX11_whyTell ∈ TT := tt_of (in_8 (List.mem_of_getElem? (i := 9) rfl)) rfl
theorem tw_1690 : Cond.code yX11_whyTell cX11_whyTell 4 (some .int) ∈ TT := tt_of (in_8 (List.mem_of_getElem? (i := 10) rfl)) rfl
theorem tw_1691 : Cond.methodLink RL 80 yX11_days ∈ TT := tt_of (in_8 (List.mem_of_getElem? (i := 11) rfl)) rfl
theorem tw_1692 : Cond.instanceMethod yX11_days ∈ TT := tt_of (in_8 (List.mem_of_getElem? (i := 12) rfl)) rfl
theorem tw_1693 : Cond.selects RX11 yX11_days yX11_days ∈ TT := tt_of (in_8 (List.mem_of_getElem? (i := 13) rfl)) rfl
theorem tw_1694 : Cond.code yX11_days cX11_days 2 (some .int) ∈ TT := tt_of (in_8 (List.mem_of_getElem? (i := 14) rfl)) rfl
theorem tw_1695 : Cond.methodLink RX11 332 yX11_goesOn ∈ TT := tt_of (in_8 (List.mem_of_getElem? (i := 15) rfl)) rfl
theorem tw_1697 : Cond.instanceMethod yX11_goesOn ∈ TT := tt_of (in_8 (List.mem_of_getElem? (i := 17) rfl)) rfl
theorem tw_1698 : Cond.code yX11_goesOn cX11_goesOn 3 (some .int) ∈ TT := tt_of (in_8 (List.mem_of_getElem? (i := 18) rfl)) rfl
theorem tw_1699 : Cond.methodLink RX11 303 yX11_day ∈ TT := tt_of (in_8 (List.mem_of_getElem? (i := 19) rfl)) rfl
theorem tw_1701 : Cond.instanceMethod yX11_day ∈ TT := tt_of (in_8 (List.mem_of_getElem? (i := 21) rfl)) rfl
theorem tw_1702 : Cond.code yX11_day cX11_day 2 none ∈ TT := tt_of (in_8 (List.mem_of_getElem? (i := 22) rfl)) rfl
theorem tw_1703 : Cond.methodLink RX11 300 yX11_lesser ∈ TT := tt_of (in_8 (List.mem_of_getElem? (i := 23) rfl)) rfl
theorem tw_1704 : Cond.static yX11_lesser ∈ TT := tt_of (in_8 (List.mem_of_getElem? (i := 24) rfl)) rfl
theorem tw_1705 : Cond.code yX11_lesser cX11_lesser 2 (some .int) ∈ TT := tt_of (in_8 (List.mem_of_getElem? (i := 25) rfl)) rfl
theorem tw_1706 : Cond.methodLink RL 84 yX11_undo ∈ TT := tt_of (in_8 (List.mem_of_getElem? (i := 26) rfl)) rfl
theorem tw_1707 : Cond.instanceMethod yX11_undo ∈ TT := tt_of (in_8 (List.mem_of_getElem? (i := 27) rfl)) rfl
theorem tw_1708 : Cond.selects RX11 yX11_undo yX11_undo ∈ TT := tt_of (in_8 (List.mem_of_getElem? (i := 28) rfl)) rfl
theorem tw_1709 : Cond.code yX11_undo cX11_undo 2 (some .int) ∈ TT := tt_of (in_8 (List.mem_of_getElem? (i := 29) rfl)) rfl
theorem tw_1710 : Cond.methodLink RL 88 yX11_most ∈ TT := tt_of (in_8 (List.mem_of_getElem? (i := 30) rfl)) rfl
theorem tw_1711 : Cond.instanceMethod yX11_most ∈ TT := tt_of (in_8 (List.mem_of_getElem? (i := 31) rfl)) rfl
theorem tw_1712 : Cond.selects RX11 yX11_most yX11_most ∈ TT := tt_of (in_8 (List.mem_of_getElem? (i := 32) rfl)) rfl
theorem tw_1713 : Cond.code yX11_most cX11_most 5 (some .int) ∈ TT := tt_of (in_8 (List.mem_of_getElem? (i := 33) rfl)) rfl
theorem tw_1714 : Cond.methodLink RX11 339 yX11_dealsLeft ∈ TT := tt_of (in_8 (List.mem_of_getElem? (i := 34) rfl)) rfl
theorem tw_1716 : Cond.instanceMethod yX11_dealsLeft ∈ TT := tt_of (in_8 (List.mem_of_getElem? (i := 36) rfl)) rfl
theorem tw_1717 : Cond.code yX11_dealsLeft cX11_dealsLeft 3 (some .int) ∈ TT := tt_of (in_8 (List.mem_of_getElem? (i := 37) rfl)) rfl
theorem tw_1718 : Cond.constant RX11 335 (1000000 : Int32) ∈ TT := tt_of (in_8 (List.mem_of_getElem? (i := 38) rfl)) rfl
theorem tw_1719 : Cond.methodLink RX11 336 yX11_greater ∈ TT := tt_of (in_8 (List.mem_of_getElem? (i := 39) rfl)) rfl
theorem tw_1720 : Cond.static yX11_greater ∈ TT := tt_of (in_8 (List.mem_of_getElem? (i := 40) rfl)) rfl
theorem tw_1721 : Cond.code yX11_greater cX11_greater 2 (some .int) ∈ TT := tt_of (in_8 (List.mem_of_getElem? (i := 41) rfl)) rfl
theorem tw_1722 : Cond.methodLink RX11 342 yX11_finds ∈ TT := tt_of (in_8 (List.mem_of_getElem? (i := 42) rfl)) rfl
theorem tw_1724 : Cond.instanceMethod yX11_finds ∈ TT := tt_of (in_8 (List.mem_of_getElem? (i := 44) rfl)) rfl
theorem tw_1725 : Cond.code yX11_finds cX11_finds 4 (some .boolean) ∈ TT := tt_of (in_8 (List.mem_of_getElem? (i := 45) rfl)) rfl
theorem tw_1726 : Cond.methodLink RL 92 yX11_who ∈ TT := tt_of (in_8 (List.mem_of_getElem? (i := 46) rfl)) rfl
theorem tw_1727 : Cond.instanceMethod yX11_who ∈ TT := tt_of (in_8 (List.mem_of_getElem? (i := 47) rfl)) rfl
theorem tw_1728 : Cond.selects RX11 yX11_who yX11_who ∈ TT := tt_of (in_8 (List.mem_of_getElem? (i := 48) rfl)) rfl
theorem tw_1729 : Cond.code yX11_who cX11_who 6 (some .int) ∈ TT := tt_of (in_8 (List.mem_of_getElem? (i := 49) rfl)) rfl
theorem tw_1730 : Cond.methodLink RX11 345 yX11_octet ∈ TT := tt_of (in_8 (List.mem_of_getElem? (i := 50) rfl)) rfl
theorem tw_1732 : Cond.instanceMethod yX11_octet ∈ TT := tt_of (in_8 (List.mem_of_getElem? (i := 52) rfl)) rfl
theorem tw_1733 : Cond.code yX11_octet cX11_octet 2 (some .int) ∈ TT := tt_of (in_8 (List.mem_of_getElem? (i := 53) rfl)) rfl
theorem tw_1734 : Cond.methodLink RX11 348 yX11_isMask ∈ TT := tt_of (in_8 (List.mem_of_getElem? (i := 54) rfl)) rfl
theorem tw_1736 : Cond.instanceMethod yX11_isMask ∈ TT := tt_of (in_8 (List.mem_of_getElem? (i := 56) rfl)) rfl
theorem tw_1737 : Cond.code yX11_isMask cX11_isMask 4 (some .boolean) ∈ TT := tt_of (in_8 (List.mem_of_getElem? (i := 57) rfl)) rfl
theorem tw_1738 : Cond.methodLink RL 96 yX11_ask ∈ TT := tt_of (in_8 (List.mem_of_getElem? (i := 58) rfl)) rfl
theorem tw_1739 : Cond.instanceMethod yX11_ask ∈ TT := tt_of (in_8 (List.mem_of_getElem? (i := 59) rfl)) rfl
theorem tw_1740 : Cond.selects RX11 yX11_ask yX11_ask ∈ TT := tt_of (in_8 (List.mem_of_getElem? (i := 60) rfl)) rfl
theorem tw_1741 : Cond.code yX11_ask cX11_ask 1 (some .int) ∈ TT := tt_of (in_8 (List.mem_of_getElem? (i := 61) rfl)) rfl
theorem tw_1742 : Cond.methodLink RL 100 yX11_serve ∈ TT := tt_of (in_8 (List.mem_of_getElem? (i := 62) rfl)) rfl
theorem tw_1743 : Cond.instanceMethod yX11_serve ∈ TT := tt_of (in_8 (List.mem_of_getElem? (i := 63) rfl)) rfl
theorem tw_1744 : Cond.selects RX11 yX11_serve yX11_serve ∈ TT := tt_of (in_8 (List.mem_of_getElem? (i := 64) rfl)) rfl
theorem tw_1745 : Cond.code yX11_serve cX11_serve 5 (some .int) ∈ TT := tt_of (in_8 (List.mem_of_getElem? (i := 65) rfl)) rfl
theorem tw_1746 : Cond.methodLink RX11 358 yX11_isServed ∈ TT := tt_of (in_8 (List.mem_of_getElem? (i := 66) rfl)) rfl
theorem tw_1748 : Cond.instanceMethod yX11_isServed ∈ TT := tt_of (in_8 (List.mem_of_getElem? (i := 68) rfl)) rfl
theorem tw_1749 : Cond.code yX11_isServed cX11_isServed 5 (some .boolean) ∈ TT := tt_of (in_8 (List.mem_of_getElem? (i := 69) rfl)) rfl
theorem tw_1750 : Cond.methodLink RL 104 yX11_serving ∈ TT := tt_of (in_8 (List.mem_of_getElem? (i := 70) rfl)) rfl
theorem tw_1751 : Cond.instanceMethod yX11_serving ∈ TT := tt_of (in_8 (List.mem_of_getElem? (i := 71) rfl)) rfl
theorem tw_1752 : Cond.selects RX11 yX11_serving yX11_serving ∈ TT := tt_of (in_8 (List.mem_of_getElem? (i := 72) rfl)) rfl
theorem tw_1753 : Cond.code yX11_serving cX11_serving 1 (some .int) ∈ TT := tt_of (in_8 (List.mem_of_getElem? (i := 73) rfl)) rfl
theorem tw_1754 : Cond.methodLink RL 108 yX11_chain ∈ TT := tt_of (in_8 (List.mem_of_getElem? (i := 74) rfl)) rfl
theorem tw_1755 : Cond.instanceMethod yX11_chain ∈ TT := tt_of (in_8 (List.mem_of_getElem? (i := 75) rfl)) rfl
theorem tw_1756 : Cond.selects RX11 yX11_chain yX11_chain ∈ TT := tt_of (in_8 (List.mem_of_getElem? (i := 76) rfl)) rfl
theorem tw_1757 : Cond.code yX11_chain cX11_chain 6 (some .int) ∈ TT := tt_of (in_8 (List.mem_of_getElem? (i := 77) rfl)) rfl
theorem tw_1758 : Cond.methodLink RX11 367 yX11_laysSteps ∈ TT := tt_of (in_8 (List.mem_of_getElem? (i := 78) rfl)) rfl
theorem tw_1760 : Cond.instanceMethod yX11_laysSteps ∈ TT := tt_of (in_8 (List.mem_of_getElem? (i := 80) rfl)) rfl
theorem tw_1761 : Cond.code yX11_laysSteps cX11_laysSteps 6 none ∈ TT := tt_of (in_8 (List.mem_of_getElem? (i := 81) rfl)) rfl
theorem tw_1762 : Cond.methodLink RL 112 yX11_chainAt ∈ TT := tt_of (in_8 (List.mem_of_getElem? (i := 82) rfl)) rfl
theorem tw_1763 : Cond.instanceMethod yX11_chainAt ∈ TT := tt_of (in_8 (List.mem_of_getElem? (i := 83) rfl)) rfl
theorem tw_1764 : Cond.selects RX11 yX11_chainAt yX11_chainAt ∈ TT := tt_of (in_8 (List.mem_of_getElem? (i := 84) rfl)) rfl
theorem tw_1765 : Cond.code yX11_chainAt cX11_chainAt 2 (some .int) ∈ TT := tt_of (in_8 (List.mem_of_getElem? (i := 85) rfl)) rfl
theorem tw_1766 : Cond.methodLink RL 116 yX11_out ∈ TT := tt_of (in_8 (List.mem_of_getElem? (i := 86) rfl)) rfl
theorem tw_1767 : Cond.instanceMethod yX11_out ∈ TT := tt_of (in_8 (List.mem_of_getElem? (i := 87) rfl)) rfl
theorem tw_1768 : Cond.selects RX11 yX11_out yX11_out ∈ TT := tt_of (in_8 (List.mem_of_getElem? (i := 88) rfl)) rfl
theorem tw_1769 : Cond.code yX11_out cX11_out 6 (some .int) ∈ TT := tt_of (in_8 (List.mem_of_getElem? (i := 89) rfl)) rfl
theorem tw_1770 : Cond.methodLink RX11 370 yX11_tolds ∈ TT := tt_of (in_8 (List.mem_of_getElem? (i := 90) rfl)) rfl
theorem tw_1772 : Cond.instanceMethod yX11_tolds ∈ TT := tt_of (in_8 (List.mem_of_getElem? (i := 92) rfl)) rfl
theorem tw_1773 : Cond.code yX11_tolds cX11_tolds 5 (some .int) ∈ TT := tt_of (in_8 (List.mem_of_getElem? (i := 93) rfl)) rfl
theorem tw_1774 : Cond.methodLink RL 120 yX11_apart ∈ TT := tt_of (in_8 (List.mem_of_getElem? (i := 94) rfl)) rfl
theorem tw_1775 : Cond.instanceMethod yX11_apart ∈ TT := tt_of (in_8 (List.mem_of_getElem? (i := 95) rfl)) rfl
theorem tw_1776 : Cond.selects RX11 yX11_apart yX11_apart ∈ TT := tt_of (in_8 (List.mem_of_getElem? (i := 96) rfl)) rfl
theorem tw_1777 : Cond.code yX11_apart cX11_apart 5 (some .int) ∈ TT := tt_of (in_8 (List.mem_of_getElem? (i := 97) rfl)) rfl
theorem tw_1778 : Cond.methodLink RX11 373 yX11_areApart ∈ TT := tt_of (in_8 (List.mem_of_getElem? (i := 98) rfl)) rfl
theorem tw_1780 : Cond.instanceMethod yX11_areApart ∈ TT := tt_of (in_8 (List.mem_of_getElem? (i := 100) rfl)) rfl
theorem tw_1781 : Cond.code yX11_areApart cX11_areApart 6 (some .boolean) ∈ TT := tt_of (in_8 (List.mem_of_getElem? (i := 101) rfl)) rfl
theorem tw_1782 : Cond.methodLink RL 124 yX11_parting ∈ TT := tt_of (in_8 (List.mem_of_getElem? (i := 102) rfl)) rfl
theorem tw_1783 : Cond.instanceMethod yX11_parting ∈ TT := tt_of (in_8 (List.mem_of_getElem? (i := 103) rfl)) rfl
theorem tw_1784 : Cond.selects RX11 yX11_parting yX11_parting ∈ TT := tt_of (in_8 (List.mem_of_getElem? (i := 104) rfl)) rfl
theorem tw_1785 : Cond.code yX11_parting cX11_parting 1 (some .int) ∈ TT := tt_of (in_8 (List.mem_of_getElem? (i := 105) rfl)) rfl
theorem tw_1786 : Cond.methodLink RL 128 yX11_recluse ∈ TT := tt_of (in_8 (List.mem_of_getElem? (i := 106) rfl)) rfl
theorem tw_1787 : Cond.instanceMethod yX11_recluse ∈ TT := tt_of (in_8 (List.mem_of_getElem? (i := 107) rfl)) rfl
theorem tw_1788 : Cond.selects RX11 yX11_recluse yX11_recluse ∈ TT := tt_of (in_8 (List.mem_of_getElem? (i := 108) rfl)) rfl
theorem tw_1789 : Cond.code yX11_recluse cX11_recluse 3 (some .int) ∈ TT := tt_of (in_8 (List.mem_of_getElem? (i := 109) rfl)) rfl
theorem tw_1790 : Cond.methodLink RL 132 yX11_face ∈ TT := tt_of (in_8 (List.mem_of_getElem? (i := 110) rfl)) rfl
theorem tw_1791 : Cond.instanceMethod yX11_face ∈ TT := tt_of (in_8 (List.mem_of_getElem? (i := 111) rfl)) rfl
theorem tw_1792 : Cond.selects RX11 yX11_face yX11_face ∈ TT := tt_of (in_8 (List.mem_of_getElem? (i := 112) rfl)) rfl
theorem tw_1793 : Cond.code yX11_face cX11_face 3 (some .int) ∈ TT := tt_of (in_8 (List.mem_of_getElem? (i := 113) rfl)) rfl
theorem tw_1794 : Cond.methodLink RX11 390 yX11_spells ∈ TT := tt_of (in_8 (List.mem_of_getElem? (i := 114) rfl)) rfl
theorem tw_1796 : Cond.instanceMethod yX11_spells ∈ TT := tt_of (in_8 (List.mem_of_getElem? (i := 116) rfl)) rfl
theorem tw_1797 : Cond.code yX11_spells cX11_spells 4 none ∈ TT := tt_of (in_8 (List.mem_of_getElem? (i := 117) rfl)) rfl
theorem tw_1798 : Cond.constantLong RX11 385 (255 : Int64) ∈ TT := tt_of (in_8 (List.mem_of_getElem? (i := 118) rfl)) rfl
theorem tw_1799 : Cond.methodLink RX11 387 yX11_lays ∈ TT := tt_of (in_8 (List.mem_of_getElem? (i := 119) rfl)) rfl
theorem tw_1801 : Cond.instanceMethod yX11_lays ∈ TT := tt_of (in_8 (List.mem_of_getElem? (i := 121) rfl)) rfl
theorem tw_1802 : Cond.code yX11_lays cX11_lays 2 none ∈ TT := tt_of (in_8 (List.mem_of_getElem? (i := 122) rfl)) rfl
theorem tw_1803 : Cond.methodLink RX11 394 yX11_says ∈ TT := tt_of (in_8 (List.mem_of_getElem? (i := 123) rfl)) rfl
theorem tw_1805 : Cond.instanceMethod yX11_says ∈ TT := tt_of (in_8 (List.mem_of_getElem? (i := 125) rfl)) rfl
theorem tw_1806 : Cond.code yX11_says cX11_says 3 none ∈ TT := tt_of (in_8 (List.mem_of_getElem? (i := 126) rfl)) rfl
theorem tw_1807 : Cond.constantLong RX11 397 (121424671892601 : Int64) ∈ TT := tt_of (in_8 (List.mem_of_getElem? (i := 127) rfl)) rfl
theorem tw_1808 : Cond.methodLink RL 136 yX11_byteAt ∈ TT := tt_of (in_8 (List.mem_of_getElem? (i := 128) rfl)) rfl
theorem tw_1809 : Cond.instanceMethod yX11_byteAt ∈ TT := tt_of (in_8 (List.mem_of_getElem? (i := 129) rfl)) rfl
theorem tw_1810 : Cond.selects RX11 yX11_byteAt yX11_byteAt ∈ TT := tt_of (in_8 (List.mem_of_getElem? (i := 130) rfl)) rfl
theorem tw_1811 : Cond.code yX11_byteAt cX11_byteAt 2 (some .int) ∈ TT := tt_of (in_8 (List.mem_of_getElem? (i := 131) rfl)) rfl
theorem tw_1812 : Cond.methodLink RL 140 yX11_drawn ∈ TT := tt_of (in_8 (List.mem_of_getElem? (i := 132) rfl)) rfl
theorem tw_1813 : Cond.instanceMethod yX11_drawn ∈ TT := tt_of (in_8 (List.mem_of_getElem? (i := 133) rfl)) rfl
theorem tw_1814 : Cond.selects RX11 yX11_drawn yX11_drawn ∈ TT := tt_of (in_8 (List.mem_of_getElem? (i := 134) rfl)) rfl
theorem tw_1815 : Cond.code yX11_drawn cX11_drawn 3 (some .int) ∈ TT := tt_of (in_8 (List.mem_of_getElem? (i := 135) rfl)) rfl
theorem tw_1816 : Cond.methodLink RX11 409 yX11_draws ∈ TT := tt_of (in_8 (List.mem_of_getElem? (i := 136) rfl)) rfl
theorem tw_1818 : Cond.instanceMethod yX11_draws ∈ TT := tt_of (in_8 (List.mem_of_getElem? (i := 138) rfl)) rfl
theorem tw_1819 : Cond.code yX11_draws cX11_draws 5 (some .int) ∈ TT := tt_of (in_8 (List.mem_of_getElem? (i := 139) rfl)) rfl
theorem tw_1820 : Cond.methodLink RX11 406 yX11_drawPerson ∈ TT := tt_of (in_8 (List.mem_of_getElem? (i := 140) rfl)) rfl
theorem tw_1822 : Cond.instanceMethod yX11_drawPerson ∈ TT := tt_of (in_8 (List.mem_of_getElem? (i := 142) rfl)) rfl
theorem tw_1823 : Cond.code yX11_drawPerson cX11_drawPerson 5 none ∈ TT := tt_of (in_8 (List.mem_of_getElem? (i := 143) rfl)) rfl
theorem tw_1824 : Cond.methodLink RX11 403 yX11_draw ∈ TT := tt_of (in_8 (List.mem_of_getElem? (i := 144) rfl)) rfl
theorem tw_1826 : Cond.instanceMethod yX11_draw ∈ TT := tt_of (in_8 (List.mem_of_getElem? (i := 146) rfl)) rfl
theorem tw_1827 : Cond.code yX11_draw cX11_draw 2 (some .int) ∈ TT := tt_of (in_8 (List.mem_of_getElem? (i := 147) rfl)) rfl
theorem tw_1828 : Cond.constant RX11 402 (1103515245 : Int32) ∈ TT := tt_of (in_8 (List.mem_of_getElem? (i := 148) rfl)) rfl
theorem tw_1829 : Cond.methodLink RL 144 yX11_odds ∈ TT := tt_of (in_8 (List.mem_of_getElem? (i := 149) rfl)) rfl
theorem tw_1830 : Cond.instanceMethod yX11_odds ∈ TT := tt_of (in_8 (List.mem_of_getElem? (i := 150) rfl)) rfl
theorem tw_1831 : Cond.selects RX11 yX11_odds yX11_odds ∈ TT := tt_of (in_8 (List.mem_of_getElem? (i := 151) rfl)) rfl
theorem tw_1832 : Cond.code yX11_odds cX11_odds 7 (some .int) ∈ TT := tt_of (in_8 (List.mem_of_getElem? (i := 152) rfl)) rfl
theorem tw_1833 : Cond.methodLink RX11 412 yX11_tries ∈ TT := tt_of (in_8 (List.mem_of_getElem? (i := 153) rfl)) rfl
theorem tw_1835 : Cond.instanceMethod yX11_tries ∈ TT := tt_of (in_8 (List.mem_of_getElem? (i := 155) rfl)) rfl
theorem tw_1836 : Cond.code yX11_tries cX11_tries 2 none ∈ TT := tt_of (in_8 (List.mem_of_getElem? (i := 156) rfl)) rfl
theorem tw_1837 : Cond.methodLink RX11 415 yX11_back ∈ TT := tt_of (in_8 (List.mem_of_getElem? (i := 157) rfl)) rfl
theorem tw_1839 : Cond.instanceMethod yX11_back ∈ TT := tt_of (in_8 (List.mem_of_getElem? (i := 159) rfl)) rfl
theorem tw_1840 : Cond.code yX11_back cX11_back 2 none ∈ TT := tt_of (in_8 (List.mem_of_getElem? (i := 160) rfl)) rfl
theorem tw_1841 : Cond.methodLink RL 148 yX11_book ∈ TT := tt_of (in_8 (List.mem_of_getElem? (i := 161) rfl)) rfl
theorem tw_1842 : Cond.instanceMethod yX11_book ∈ TT := tt_of (in_8 (List.mem_of_getElem? (i := 162) rfl)) rfl
theorem tw_1843 : Cond.selects RX11 yX11_book yX11_book ∈ TT := tt_of (in_8 (List.mem_of_getElem? (i := 163) rfl)) rfl
theorem tw_1844 : Cond.code yX11_book cX11_book 4 (some .int) ∈ TT := tt_of (in_8 (List.mem_of_getElem? (i := 164) rfl)) rfl
theorem tw_1845 : Cond.methodLink RX11 421 yX11_bookLine ∈ TT := tt_of (in_8 (List.mem_of_getElem? (i := 165) rfl)) rfl
theorem tw_1847 : Cond.instanceMethod yX11_bookLine ∈ TT := tt_of (in_8 (List.mem_of_getElem? (i := 167) rfl)) rfl
theorem tw_1848 : Cond.code yX11_bookLine cX11_bookLine 6 (some .boolean) ∈ TT := tt_of (in_8 (List.mem_of_getElem? (i := 168) rfl)) rfl
theorem tw_1849 : Cond.methodLink RX11 424 yX11_does ∈ TT := tt_of (in_8 (List.mem_of_getElem? (i := 169) rfl)) rfl
theorem tw_1851 : Cond.instanceMethod yX11_does ∈ TT := tt_of (in_8 (List.mem_of_getElem? (i := 171) rfl)) rfl
theorem tw_1852 : Cond.code yX11_does cX11_does 6 (some .int) ∈ TT := tt_of (in_8 (List.mem_of_getElem? (i := 172) rfl)) rfl
theorem tw_1853 : Cond.methodLink RL 152 yX11_told ∈ TT := tt_of (in_8 (List.mem_of_getElem? (i := 173) rfl)) rfl
theorem tw_1854 : Cond.instanceMethod yX11_told ∈ TT := tt_of (in_8 (List.mem_of_getElem? (i := 174) rfl)) rfl
theorem tw_1855 : Cond.selects RX11 yX11_told yX11_told ∈ TT := tt_of (in_8 (List.mem_of_getElem? (i := 175) rfl)) rfl
theorem tw_1856 : Cond.code yX11_told cX11_told 2 (some .int) ∈ TT := tt_of (in_8 (List.mem_of_getElem? (i := 176) rfl)) rfl
theorem tw_1857 : Cond.methodLink RL 156 yX11_sentence ∈ TT := tt_of (in_8 (List.mem_of_getElem? (i := 177) rfl)) rfl
theorem tw_1858 : Cond.instanceMethod yX11_sentence ∈ TT := tt_of (in_8 (List.mem_of_getElem? (i := 178) rfl)) rfl
theorem tw_1859 : Cond.selects RX11 yX11_sentence yX11_sentence ∈ TT := tt_of (in_8 (List.mem_of_getElem? (i := 179) rfl)) rfl
theorem tw_1860 : Cond.code yX11_sentence cX11_sentence 3 (some .int) ∈ TT := tt_of (in_8 (List.mem_of_getElem? (i := 180) rfl)) rfl
theorem tw_1861 : Cond.methodLink RX11 452 yX11_nots ∈ TT := tt_of (in_8 (List.mem_of_getElem? (i := 181) rfl)) rfl
theorem tw_1863 : Cond.instanceMethod yX11_nots ∈ TT := tt_of (in_8 (List.mem_of_getElem? (i := 183) rfl)) rfl
theorem tw_1864 : Cond.code yX11_nots cX11_nots 1 none ∈ TT := tt_of (in_8 (List.mem_of_getElem? (i := 184) rfl)) rfl
theorem tw_1865 : Cond.methodLink RX11 437 yX11_code ∈ TT := tt_of (in_8 (List.mem_of_getElem? (i := 185) rfl)) rfl
theorem tw_1867 : Cond.instanceMethod yX11_code ∈ TT := tt_of (in_8 (List.mem_of_getElem? (i := 187) rfl)) rfl
theorem tw_1868 : Cond.code yX11_code cX11_code 4 none ∈ TT := tt_of (in_8 (List.mem_of_getElem? (i := 188) rfl)) rfl
theorem tw_1869 : Cond.methodLink RX11 455 yX11_joins ∈ TT := tt_of (in_8 (List.mem_of_getElem? (i := 189) rfl)) rfl
theorem tw_1871 : Cond.instanceMethod yX11_joins ∈ TT := tt_of (in_8 (List.mem_of_getElem? (i := 191) rfl)) rfl
theorem tw_1872 : Cond.code yX11_joins cX11_joins 2 none ∈ TT := tt_of (in_8 (List.mem_of_getElem? (i := 192) rfl)) rfl
theorem tw_1873 : Cond.methodLink RX11 458 yX11_behind ∈ TT := tt_of (in_8 (List.mem_of_getElem? (i := 193) rfl)) rfl
theorem tw_1875 : Cond.instanceMethod yX11_behind ∈ TT := tt_of (in_8 (List.mem_of_getElem? (i := 195) rfl)) rfl
theorem tw_1876 : Cond.code yX11_behind cX11_behind 1 (some .boolean) ∈ TT := tt_of (in_8 (List.mem_of_getElem? (i := 196) rfl)) rfl
theorem tw_1877 : Cond.methodLink RX11 461 yX11_operand ∈ TT := tt_of (in_8 (List.mem_of_getElem? (i := 197) rfl)) rfl
theorem tw_1879 : Cond.instanceMethod yX11_operand ∈ TT := tt_of (in_8 (List.mem_of_getElem? (i := 199) rfl)) rfl
theorem tw_1880 : Cond.code yX11_operand cX11_operand 5 (some .boolean) ∈ TT := tt_of (in_8 (List.mem_of_getElem? (i := 200) rfl)) rfl
theorem tw_1881 : Cond.methodLink RX11 443 yX11_leafOf ∈ TT := tt_of (in_8 (List.mem_of_getElem? (i := 201) rfl)) rfl
theorem tw_1883 : Cond.instanceMethod yX11_leafOf ∈ TT := tt_of (in_8 (List.mem_of_getElem? (i := 203) rfl)) rfl
theorem tw_1884 : Cond.code yX11_leafOf cX11_leafOf 1 (some .int) ∈ TT := tt_of (in_8 (List.mem_of_getElem? (i := 204) rfl)) rfl
theorem tw_1885 : Cond.methodLink RL 160 yX11_said ∈ TT := tt_of (in_8 (List.mem_of_getElem? (i := 205) rfl)) rfl
theorem tw_1886 : Cond.instanceMethod yX11_said ∈ TT := tt_of (in_8 (List.mem_of_getElem? (i := 206) rfl)) rfl
theorem tw_1887 : Cond.selects RX11 yX11_said yX11_said ∈ TT := tt_of (in_8 (List.mem_of_getElem? (i := 207) rfl)) rfl
theorem tw_1888 : Cond.code yX11_said cX11_said 4 (some .int) ∈ TT := tt_of (in_8 (List.mem_of_getElem? (i := 208) rfl)) rfl
theorem tw_1889 : Cond.methodLink RX11 470 yX11_isSaid ∈ TT := tt_of (in_8 (List.mem_of_getElem? (i := 209) rfl)) rfl
theorem tw_1891 : Cond.instanceMethod yX11_isSaid ∈ TT := tt_of (in_8 (List.mem_of_getElem? (i := 211) rfl)) rfl
theorem tw_1892 : Cond.code yX11_isSaid cX11_isSaid 5 (some .boolean) ∈ TT := tt_of (in_8 (List.mem_of_getElem? (i := 212) rfl)) rfl
theorem tw_1893 : Cond.methodLink RX11 467 yX11_isLeaf ∈ TT := tt_of (in_8 (List.mem_of_getElem? (i := 213) rfl)) rfl
theorem tw_1895 : Cond.instanceMethod yX11_isLeaf ∈ TT := tt_of (in_8 (List.mem_of_getElem? (i := 215) rfl)) rfl
theorem tw_1896 : Cond.code yX11_isLeaf cX11_isLeaf 6 (some .boolean) ∈ TT := tt_of (in_8 (List.mem_of_getElem? (i := 216) rfl)) rfl
theorem tw_1897 : Cond.methodLink RX11 464 yX11_isSold ∈ TT := tt_of (in_8 (List.mem_of_getElem? (i := 217) rfl)) rfl
theorem tw_1899 : Cond.instanceMethod yX11_isSold ∈ TT := tt_of (in_8 (List.mem_of_getElem? (i := 219) rfl)) rfl
theorem tw_1900 : Cond.code yX11_isSold cX11_isSold 5 (some .boolean) ∈ TT := tt_of (in_8 (List.mem_of_getElem? (i := 220) rfl)) rfl
theorem tw_1901 : Cond.methodLink RL 164 yX11_image ∈ TT := tt_of (in_8 (List.mem_of_getElem? (i := 221) rfl)) rfl
theorem tw_1902 : Cond.instanceMethod yX11_image ∈ TT := tt_of (in_8 (List.mem_of_getElem? (i := 222) rfl)) rfl
theorem tw_1903 : Cond.selects RX11 yX11_image yX11_image ∈ TT := tt_of (in_8 (List.mem_of_getElem? (i := 223) rfl)) rfl
theorem tw_1904 : Cond.code yX11_image cX11_image 3 (some .boolean) ∈ TT := tt_of (in_8 (List.mem_of_getElem? (i := 224) rfl)) rfl
theorem tw_1905 : Cond.methodLink RL 168 yX11_restore ∈ TT := tt_of (in_8 (List.mem_of_getElem? (i := 225) rfl)) rfl
theorem tw_1906 : Cond.instanceMethod yX11_restore ∈ TT := tt_of (in_8 (List.mem_of_getElem? (i := 226) rfl)) rfl
theorem tw_1907 : Cond.selects RX11 yX11_restore yX11_restore ∈ TT := tt_of (in_8 (List.mem_of_getElem? (i := 227) rfl)) rfl
theorem tw_1908 : Cond.code yX11_restore cX11_restore 3 (some .boolean) ∈ TT := tt_of (in_8 (List.mem_of_getElem? (i := 228) rfl)) rfl
theorem tw_1909 : Cond.methodLink RL 172 yX11_count ∈ TT := tt_of (in_8 (List.mem_of_getElem? (i := 229) rfl)) rfl
theorem tw_1910 : Cond.instanceMethod yX11_count ∈ TT := tt_of (in_8 (List.mem_of_getElem? (i := 230) rfl)) rfl
theorem tw_1911 : Cond.selects RX11 yX11_count yX11_count ∈ TT := tt_of (in_8 (List.mem_of_getElem? (i := 231) rfl)) rfl
theorem tw_1912 : Cond.code yX11_count cX11_count 2 (some .int) ∈ TT := tt_of (in_8 (List.mem_of_getElem? (i := 232) rfl)) rfl
theorem tw_1929 : Cond.fieldLink RJ0 9 "java/lang/String" "value" "[B" ∈ TT := tt_of (in_9 (List.mem_of_getElem? (i := 9) rfl)) rfl
theorem tw_1930 : Cond.fieldLink RJ0 15 "java/lang/String" "coder" "B" ∈ TT := tt_of (in_9 (List.mem_of_getElem? (i := 10) rfl)) rfl
theorem ts_0 : Cond.selects RX4 yX4_forget yX4_forget ∈ TT := tt_of (List.mem_append_left _ (List.mem_of_getElem? (i := 0) rfl)) rfl
theorem ts_1 : Cond.selects RX4 yX4_dawn yX4_dawn ∈ TT := tt_of (List.mem_append_left _ (List.mem_of_getElem? (i := 1) rfl)) rfl
theorem ts_2 : Cond.selects RX8 yX8_readRun yX8_readRun ∈ TT := tt_of (List.mem_append_left _ (List.mem_of_getElem? (i := 2) rfl)) rfl
theorem ts_3 : Cond.selects RX8 yX8_readSign yX8_readSign ∈ TT := tt_of (List.mem_append_left _ (List.mem_of_getElem? (i := 3) rfl)) rfl
theorem ts_4 : Cond.selects RX8 yX8_placeInWords yX8_placeInWords ∈ TT := tt_of (List.mem_append_left _ (List.mem_of_getElem? (i := 4) rfl)) rfl
theorem ts_5 : Cond.selects RX2 yX2_readLine yX2_readLine ∈ TT := tt_of (List.mem_append_left _ (List.mem_of_getElem? (i := 5) rfl)) rfl
theorem ts_6 : Cond.selects RX2 yX2_readPerson yX2_readPerson ∈ TT := tt_of (List.mem_append_left _ (List.mem_of_getElem? (i := 6) rfl)) rfl
theorem ts_7 : Cond.selects RX2 yX2_passNewName yX2_passNewName ∈ TT := tt_of (List.mem_append_left _ (List.mem_of_getElem? (i := 7) rfl)) rfl
theorem ts_8 : Cond.selects RX2 yX2_readGood yX2_readGood ∈ TT := tt_of (List.mem_append_left _ (List.mem_of_getElem? (i := 8) rfl)) rfl
theorem ts_9 : Cond.selects RX2 yX2_readSells yX2_readSells ∈ TT := tt_of (List.mem_append_left _ (List.mem_of_getElem? (i := 9) rfl)) rfl
theorem ts_10 : Cond.selects RX2 yX2_passNewCell yX2_passNewCell ∈ TT := tt_of (List.mem_append_left _ (List.mem_of_getElem? (i := 10) rfl)) rfl
theorem ts_11 : Cond.selects RX2 yX2_readWants yX2_readWants ∈ TT := tt_of (List.mem_append_left _ (List.mem_of_getElem? (i := 11) rfl)) rfl
theorem ts_12 : Cond.selects RX2 yX2_readPair yX2_readPair ∈ TT := tt_of (List.mem_append_left _ (List.mem_of_getElem? (i := 12) rfl)) rfl
theorem ts_13 : Cond.selects RX2 yX2_readDeals yX2_readDeals ∈ TT := tt_of (List.mem_append_left _ (List.mem_of_getElem? (i := 13) rfl)) rfl
theorem ts_14 : Cond.selects RX2 yX2_readVeils yX2_readVeils ∈ TT := tt_of (List.mem_append_left _ (List.mem_of_getElem? (i := 14) rfl)) rfl
theorem ts_15 : Cond.selects RX2 yX2_readBell yX2_readBell ∈ TT := tt_of (List.mem_append_left _ (List.mem_of_getElem? (i := 15) rfl)) rfl
theorem ts_16 : Cond.selects RX10 yX10_areTwo yX10_areTwo ∈ TT := tt_of (List.mem_append_left _ (List.mem_of_getElem? (i := 16) rfl)) rfl
theorem ts_17 : Cond.selects RX10 yX10_keepForUndo yX10_keepForUndo ∈ TT := tt_of (List.mem_append_left _ (List.mem_of_getElem? (i := 17) rfl)) rfl
theorem ts_18 : Cond.selects RX4 yX4_passDay yX4_passDay ∈ TT := tt_of (List.mem_append_left _ (List.mem_of_getElem? (i := 18) rfl)) rfl
theorem ts_19 : Cond.selects RX9 yX9_canReach yX9_canReach ∈ TT := tt_of (List.mem_append_left _ (List.mem_of_getElem? (i := 19) rfl)) rfl
theorem ts_20 : Cond.selects RX9 yX9_bestToAsk yX9_bestToAsk ∈ TT := tt_of (List.mem_append_left _ (List.mem_of_getElem? (i := 20) rfl)) rfl
theorem ts_21 : Cond.selects RX9 yX9_sellersOf yX9_sellersOf ∈ TT := tt_of (List.mem_append_left _ (List.mem_of_getElem? (i := 21) rfl)) rfl
theorem ts_22 : Cond.selects RX9 yX9_areAllServed yX9_areAllServed ∈ TT := tt_of (List.mem_append_left _ (List.mem_of_getElem? (i := 22) rfl)) rfl
theorem ts_23 : Cond.selects RX9 yX9_withDealers yX9_withDealers ∈ TT := tt_of (List.mem_append_left _ (List.mem_of_getElem? (i := 23) rfl)) rfl
theorem ts_24 : Cond.selects RX9 yX9_leastDealer yX9_leastDealer ∈ TT := tt_of (List.mem_append_left _ (List.mem_of_getElem? (i := 24) rfl)) rfl
theorem ts_25 : Cond.selects RX9 yX9_withKnown yX9_withKnown ∈ TT := tt_of (List.mem_append_left _ (List.mem_of_getElem? (i := 25) rfl)) rfl
theorem ts_26 : Cond.selects RX9 yX9_isLinked yX9_isLinked ∈ TT := tt_of (List.mem_append_left _ (List.mem_of_getElem? (i := 26) rfl)) rfl
theorem ts_27 : Cond.selects RX5 yX5_addName yX5_addName ∈ TT := tt_of (List.mem_append_left _ (List.mem_of_getElem? (i := 27) rfl)) rfl
theorem ts_28 : Cond.selects RX5 yX5_add yX5_add ∈ TT := tt_of (List.mem_append_left _ (List.mem_of_getElem? (i := 28) rfl)) rfl
theorem ts_29 : Cond.selects RX5 yX5_addText yX5_addText ∈ TT := tt_of (List.mem_append_left _ (List.mem_of_getElem? (i := 29) rfl)) rfl
theorem ts_30 : Cond.selects RX4 yX4_drawAct yX4_drawAct ∈ TT := tt_of (List.mem_append_left _ (List.mem_of_getElem? (i := 30) rfl)) rfl
theorem ts_31 : Cond.selects RX4 yX4_draw yX4_draw ∈ TT := tt_of (List.mem_append_left _ (List.mem_of_getElem? (i := 31) rfl)) rfl
theorem ts_32 : Cond.selects RX4 yX4_drawBuy yX4_drawBuy ∈ TT := tt_of (List.mem_append_left _ (List.mem_of_getElem? (i := 32) rfl)) rfl
theorem ts_33 : Cond.selects RX0 yX0_readLine yX0_readLine ∈ TT := tt_of (List.mem_append_left _ (List.mem_of_getElem? (i := 33) rfl)) rfl
theorem ts_34 : Cond.selects RX0 yX0_readAct yX0_readAct ∈ TT := tt_of (List.mem_append_left _ (List.mem_of_getElem? (i := 34) rfl)) rfl
theorem ts_35 : Cond.selects RX0 yX0_liveLine yX0_liveLine ∈ TT := tt_of (List.mem_append_left _ (List.mem_of_getElem? (i := 35) rfl)) rfl
theorem ts_36 : Cond.selects RX7 yX7_readCond yX7_readCond ∈ TT := tt_of (List.mem_append_left _ (List.mem_of_getElem? (i := 36) rfl)) rfl
theorem ts_37 : Cond.selects RX7 yX7_readOne yX7_readOne ∈ TT := tt_of (List.mem_append_left _ (List.mem_of_getElem? (i := 37) rfl)) rfl
theorem ts_38 : Cond.selects RX7 yX7_readPlain yX7_readPlain ∈ TT := tt_of (List.mem_append_left _ (List.mem_of_getElem? (i := 38) rfl)) rfl
theorem ts_39 : Cond.selects RX6 yX6_trueOfStep yX6_trueOfStep ∈ TT := tt_of (List.mem_append_left _ (List.mem_of_getElem? (i := 39) rfl)) rfl
theorem ts_40 : Cond.selects RX6 yX6_isTrue yX6_isTrue ∈ TT := tt_of (List.mem_append_left _ (List.mem_of_getElem? (i := 40) rfl)) rfl
theorem ts_41 : Cond.selects RX6 yX6_compares yX6_compares ∈ TT := tt_of (List.mem_append_left _ (List.mem_of_getElem? (i := 41) rfl)) rfl
theorem ts_42 : Cond.selects "java/lang/Throwable" ⟨"java/lang/Throwable", "fillInStackTrace", "(I)Ljava/lang/Throwable;"⟩ ⟨"java/lang/Throwable", "fillInStackTrace", "(I)Ljava/lang/Throwable;"⟩ ∈ TT := tt_of (List.mem_append_left _ (List.mem_of_getElem? (i := 42) rfl)) rfl
theorem ts_43 : Cond.selects RX11 yX11_four yX11_four ∈ TT := tt_of (List.mem_append_left _ (List.mem_of_getElem? (i := 43) rfl)) rfl
theorem ts_44 : Cond.selects RX11 yX11_clears yX11_clears ∈ TT := tt_of (List.mem_append_left _ (List.mem_of_getElem? (i := 44) rfl)) rfl
theorem ts_45 : Cond.selects RX11 yX11_taken yX11_taken ∈ TT := tt_of (List.mem_append_left _ (List.mem_of_getElem? (i := 45) rfl)) rfl
theorem ts_46 : Cond.selects RX11 yX11_next yX11_next ∈ TT := tt_of (List.mem_append_left _ (List.mem_of_getElem? (i := 46) rfl)) rfl
theorem ts_47 : Cond.selects RX11 yX11_peek yX11_peek ∈ TT := tt_of (List.mem_append_left _ (List.mem_of_getElem? (i := 47) rfl)) rfl
theorem ts_48 : Cond.selects RX11 yX11_line yX11_line ∈ TT := tt_of (List.mem_append_left _ (List.mem_of_getElem? (i := 48) rfl)) rfl
theorem ts_49 : Cond.selects RX11 yX11_isWord yX11_isWord ∈ TT := tt_of (List.mem_append_left _ (List.mem_of_getElem? (i := 49) rfl)) rfl
theorem ts_50 : Cond.selects RX11 yX11_readPerson yX11_readPerson ∈ TT := tt_of (List.mem_append_left _ (List.mem_of_getElem? (i := 50) rfl)) rfl
theorem ts_51 : Cond.selects RX11 yX11_bad yX11_bad ∈ TT := tt_of (List.mem_append_left _ (List.mem_of_getElem? (i := 51) rfl)) rfl
theorem ts_52 : Cond.selects RX11 yX11_fresh yX11_fresh ∈ TT := tt_of (List.mem_append_left _ (List.mem_of_getElem? (i := 52) rfl)) rfl
theorem ts_53 : Cond.selects RX11 yX11_isName yX11_isName ∈ TT := tt_of (List.mem_append_left _ (List.mem_of_getElem? (i := 53) rfl)) rfl
theorem ts_54 : Cond.selects RX11 yX11_seek yX11_seek ∈ TT := tt_of (List.mem_append_left _ (List.mem_of_getElem? (i := 54) rfl)) rfl
theorem ts_55 : Cond.selects RX11 yX11_puts yX11_puts ∈ TT := tt_of (List.mem_append_left _ (List.mem_of_getElem? (i := 55) rfl)) rfl
theorem ts_56 : Cond.selects RX11 yX11_takes yX11_takes ∈ TT := tt_of (List.mem_append_left _ (List.mem_of_getElem? (i := 56) rfl)) rfl
theorem ts_57 : Cond.selects RX11 yX11_readGood yX11_readGood ∈ TT := tt_of (List.mem_append_left _ (List.mem_of_getElem? (i := 57) rfl)) rfl
theorem ts_58 : Cond.selects RX11 yX11_readTrade yX11_readTrade ∈ TT := tt_of (List.mem_append_left _ (List.mem_of_getElem? (i := 58) rfl)) rfl
theorem ts_59 : Cond.selects RX11 yX11_takesName yX11_takesName ∈ TT := tt_of (List.mem_append_left _ (List.mem_of_getElem? (i := 59) rfl)) rfl
theorem ts_60 : Cond.selects RX11 yX11_looksAt yX11_looksAt ∈ TT := tt_of (List.mem_append_left _ (List.mem_of_getElem? (i := 60) rfl)) rfl
theorem ts_61 : Cond.selects RX11 yX11_readPair yX11_readPair ∈ TT := tt_of (List.mem_append_left _ (List.mem_of_getElem? (i := 61) rfl)) rfl
theorem ts_62 : Cond.selects RX11 yX11_once yX11_once ∈ TT := tt_of (List.mem_append_left _ (List.mem_of_getElem? (i := 62) rfl)) rfl
theorem ts_63 : Cond.selects RX11 yX11_sign yX11_sign ∈ TT := tt_of (List.mem_append_left _ (List.mem_of_getElem? (i := 63) rfl)) rfl
theorem ts_64 : Cond.selects RX11 yX11_isSign yX11_isSign ∈ TT := tt_of (List.mem_append_left _ (List.mem_of_getElem? (i := 64) rfl)) rfl
theorem ts_65 : Cond.selects RX11 yX11_morning yX11_morning ∈ TT := tt_of (List.mem_append_left _ (List.mem_of_getElem? (i := 65) rfl)) rfl
theorem ts_66 : Cond.selects RX11 yX11_isPerson yX11_isPerson ∈ TT := tt_of (List.mem_append_left _ (List.mem_of_getElem? (i := 66) rfl)) rfl
theorem ts_67 : Cond.selects RX11 yX11_throwsIf yX11_throwsIf ∈ TT := tt_of (List.mem_append_left _ (List.mem_of_getElem? (i := 67) rfl)) rfl
theorem ts_68 : Cond.selects RX11 yX11_knownBy yX11_knownBy ∈ TT := tt_of (List.mem_append_left _ (List.mem_of_getElem? (i := 68) rfl)) rfl
theorem ts_69 : Cond.selects RX11 yX11_mayBy yX11_mayBy ∈ TT := tt_of (List.mem_append_left _ (List.mem_of_getElem? (i := 69) rfl)) rfl
theorem ts_70 : Cond.selects RX11 yX11_wantsOf yX11_wantsOf ∈ TT := tt_of (List.mem_append_left _ (List.mem_of_getElem? (i := 70) rfl)) rfl
theorem ts_71 : Cond.selects RX11 yX11_isGood yX11_isGood ∈ TT := tt_of (List.mem_append_left _ (List.mem_of_getElem? (i := 71) rfl)) rfl
theorem ts_72 : Cond.selects RX11 yX11_fed yX11_fed ∈ TT := tt_of (List.mem_append_left _ (List.mem_of_getElem? (i := 72) rfl)) rfl
theorem ts_73 : Cond.selects RX11 yX11_whyBuy yX11_whyBuy ∈ TT := tt_of (List.mem_append_left _ (List.mem_of_getElem? (i := 73) rfl)) rfl
theorem ts_74 : Cond.selects RX11 yX11_isHome yX11_isHome ∈ TT := tt_of (List.mem_append_left _ (List.mem_of_getElem? (i := 74) rfl)) rfl
theorem ts_75 : Cond.selects RX11 yX11_isVeiled yX11_isVeiled ∈ TT := tt_of (List.mem_append_left _ (List.mem_of_getElem? (i := 75) rfl)) rfl
theorem ts_76 : Cond.selects RX11 yX11_keep yX11_keep ∈ TT := tt_of (List.mem_append_left _ (List.mem_of_getElem? (i := 76) rfl)) rfl
theorem ts_77 : Cond.selects RX11 yX11_buys yX11_buys ∈ TT := tt_of (List.mem_append_left _ (List.mem_of_getElem? (i := 77) rfl)) rfl
theorem ts_78 : Cond.selects RX11 yX11_meets yX11_meets ∈ TT := tt_of (List.mem_append_left _ (List.mem_of_getElem? (i := 78) rfl)) rfl
theorem ts_79 : Cond.selects RX11 yX11_whyNod yX11_whyNod ∈ TT := tt_of (List.mem_append_left _ (List.mem_of_getElem? (i := 79) rfl)) rfl
theorem ts_80 : Cond.selects RX11 yX11_nods yX11_nods ∈ TT := tt_of (List.mem_append_left _ (List.mem_of_getElem? (i := 80) rfl)) rfl
theorem ts_81 : Cond.selects RX11 yX11_whyVeil yX11_whyVeil ∈ TT := tt_of (List.mem_append_left _ (List.mem_of_getElem? (i := 81) rfl)) rfl
theorem ts_82 : Cond.selects RX11 yX11_veils yX11_veils ∈ TT := tt_of (List.mem_append_left _ (List.mem_of_getElem? (i := 82) rfl)) rfl
theorem ts_83 : Cond.selects RX11 yX11_whyTell yX11_whyTell ∈ TT := tt_of (List.mem_append_left _ (List.mem_of_getElem? (i := 83) rfl)) rfl
theorem ts_84 : Cond.selects RX11 yX11_goesOn yX11_goesOn ∈ TT := tt_of (List.mem_append_left _ (List.mem_of_getElem? (i := 84) rfl)) rfl
theorem ts_85 : Cond.selects RX11 yX11_day yX11_day ∈ TT := tt_of (List.mem_append_left _ (List.mem_of_getElem? (i := 85) rfl)) rfl
theorem ts_86 : Cond.selects RX11 yX11_dealsLeft yX11_dealsLeft ∈ TT := tt_of (List.mem_append_left _ (List.mem_of_getElem? (i := 86) rfl)) rfl
theorem ts_87 : Cond.selects RX11 yX11_finds yX11_finds ∈ TT := tt_of (List.mem_append_left _ (List.mem_of_getElem? (i := 87) rfl)) rfl
theorem ts_88 : Cond.selects RX11 yX11_octet yX11_octet ∈ TT := tt_of (List.mem_append_left _ (List.mem_of_getElem? (i := 88) rfl)) rfl
theorem ts_89 : Cond.selects RX11 yX11_isMask yX11_isMask ∈ TT := tt_of (List.mem_append_left _ (List.mem_of_getElem? (i := 89) rfl)) rfl
theorem ts_90 : Cond.selects RX11 yX11_isServed yX11_isServed ∈ TT := tt_of (List.mem_append_left _ (List.mem_of_getElem? (i := 90) rfl)) rfl
theorem ts_91 : Cond.selects RX11 yX11_laysSteps yX11_laysSteps ∈ TT := tt_of (List.mem_append_left _ (List.mem_of_getElem? (i := 91) rfl)) rfl
theorem ts_92 : Cond.selects RX11 yX11_tolds yX11_tolds ∈ TT := tt_of (List.mem_append_left _ (List.mem_of_getElem? (i := 92) rfl)) rfl
theorem ts_93 : Cond.selects RX11 yX11_areApart yX11_areApart ∈ TT := tt_of (List.mem_append_left _ (List.mem_of_getElem? (i := 93) rfl)) rfl
theorem ts_94 : Cond.selects RX11 yX11_spells yX11_spells ∈ TT := tt_of (List.mem_append_left _ (List.mem_of_getElem? (i := 94) rfl)) rfl
theorem ts_95 : Cond.selects RX11 yX11_lays yX11_lays ∈ TT := tt_of (List.mem_append_left _ (List.mem_of_getElem? (i := 95) rfl)) rfl
theorem ts_96 : Cond.selects RX11 yX11_says yX11_says ∈ TT := tt_of (List.mem_append_left _ (List.mem_of_getElem? (i := 96) rfl)) rfl
theorem ts_97 : Cond.selects RX11 yX11_draws yX11_draws ∈ TT := tt_of (List.mem_append_left _ (List.mem_of_getElem? (i := 97) rfl)) rfl
theorem ts_98 : Cond.selects RX11 yX11_drawPerson yX11_drawPerson ∈ TT := tt_of (List.mem_append_left _ (List.mem_of_getElem? (i := 98) rfl)) rfl
theorem ts_99 : Cond.selects RX11 yX11_draw yX11_draw ∈ TT := tt_of (List.mem_append_left _ (List.mem_of_getElem? (i := 99) rfl)) rfl
theorem ts_100 : Cond.selects RX11 yX11_tries yX11_tries ∈ TT := tt_of (List.mem_append_left _ (List.mem_of_getElem? (i := 100) rfl)) rfl
theorem ts_101 : Cond.selects RX11 yX11_back yX11_back ∈ TT := tt_of (List.mem_append_left _ (List.mem_of_getElem? (i := 101) rfl)) rfl
theorem ts_102 : Cond.selects RX11 yX11_bookLine yX11_bookLine ∈ TT := tt_of (List.mem_append_left _ (List.mem_of_getElem? (i := 102) rfl)) rfl
theorem ts_103 : Cond.selects RX11 yX11_does yX11_does ∈ TT := tt_of (List.mem_append_left _ (List.mem_of_getElem? (i := 103) rfl)) rfl
theorem ts_104 : Cond.selects RX11 yX11_nots yX11_nots ∈ TT := tt_of (List.mem_append_left _ (List.mem_of_getElem? (i := 104) rfl)) rfl
theorem ts_105 : Cond.selects RX11 yX11_code yX11_code ∈ TT := tt_of (List.mem_append_left _ (List.mem_of_getElem? (i := 105) rfl)) rfl
theorem ts_106 : Cond.selects RX11 yX11_joins yX11_joins ∈ TT := tt_of (List.mem_append_left _ (List.mem_of_getElem? (i := 106) rfl)) rfl
theorem ts_107 : Cond.selects RX11 yX11_behind yX11_behind ∈ TT := tt_of (List.mem_append_left _ (List.mem_of_getElem? (i := 107) rfl)) rfl
theorem ts_108 : Cond.selects RX11 yX11_operand yX11_operand ∈ TT := tt_of (List.mem_append_left _ (List.mem_of_getElem? (i := 108) rfl)) rfl
theorem ts_109 : Cond.selects RX11 yX11_leafOf yX11_leafOf ∈ TT := tt_of (List.mem_append_left _ (List.mem_of_getElem? (i := 109) rfl)) rfl
theorem ts_110 : Cond.selects RX11 yX11_isSaid yX11_isSaid ∈ TT := tt_of (List.mem_append_left _ (List.mem_of_getElem? (i := 110) rfl)) rfl
theorem ts_111 : Cond.selects RX11 yX11_isLeaf yX11_isLeaf ∈ TT := tt_of (List.mem_append_left _ (List.mem_of_getElem? (i := 111) rfl)) rfl
theorem ts_112 : Cond.selects RX11 yX11_isSold yX11_isSold ∈ TT := tt_of (List.mem_append_left _ (List.mem_of_getElem? (i := 112) rfl)) rfl
def NW : List Cond := [Cond.fieldLinkNest RX9 92 "StrangerMarket$Tape" "bytes" "[I" "StrangerMarket", Cond.fieldLinkNest RX10 112 "StrangerMarket$Tape" "length" "I" "StrangerMarket", Cond.fieldLinkNest RX9 87 "StrangerMarket$Tape" "length" "I" "StrangerMarket", Cond.fieldLinkNest RX2 55 "StrangerMarket$Tape" "word" "I" "StrangerMarket", Cond.fieldLinkNest RX0 56 "StrangerMarket$Tape" "word" "I" "StrangerMarket", Cond.fieldLinkNest RX7 50 "StrangerMarket$Tape" "word" "I" "StrangerMarket", Cond.fieldLinkNest RX7 57 "StrangerMarket$Tape" "sign" "I" "StrangerMarket", Cond.fieldLinkNest RX2 116 "StrangerMarket$Tape" "letters" "J" "StrangerMarket", Cond.fieldLinkNest RX10 131 "StrangerMarket$Tape" "faultKind" "I" "StrangerMarket", Cond.fieldLinkNest RX10 119 "StrangerMarket$Tape" "faultPlace" "I" "StrangerMarket", Cond.fieldLinkNest RX9 42 "StrangerMarket$County" "persons" "I" "StrangerMarket", Cond.fieldLinkNest RX5 41 "StrangerMarket$County" "persons" "I" "StrangerMarket", Cond.fieldLinkNest RX2 94 "StrangerMarket$County" "persons" "I" "StrangerMarket", Cond.fieldLinkNest RX6 47 "StrangerMarket$County" "persons" "I" "StrangerMarket", Cond.fieldLinkNest RX4 97 "StrangerMarket$County" "persons" "I" "StrangerMarket", Cond.fieldLinkNest RX10 346 "StrangerMarket$County" "persons" "I" "StrangerMarket", Cond.fieldLinkNest RX2 110 "StrangerMarket$County" "goods" "I" "StrangerMarket", Cond.fieldLinkNest RX4 160 "StrangerMarket$County" "goods" "I" "StrangerMarket", Cond.fieldLinkNest RX10 349 "StrangerMarket$County" "goods" "I" "StrangerMarket", Cond.fieldLinkNest RX5 19 "StrangerMarket$County" "names" "[J" "StrangerMarket", Cond.fieldLinkNest RX2 124 "StrangerMarket$County" "names" "[J" "StrangerMarket", Cond.fieldLinkNest RX4 41 "StrangerMarket$County" "coins" "[I" "StrangerMarket", Cond.fieldLinkNest RX2 107 "StrangerMarket$County" "coins" "[I" "StrangerMarket", Cond.fieldLinkNest RX2 71 "StrangerMarket$County" "knows" "[I" "StrangerMarket", Cond.fieldLinkNest RX4 76 "StrangerMarket$County" "knows" "[I" "StrangerMarket", Cond.fieldLinkNest RX9 73 "StrangerMarket$County" "foes" "[I" "StrangerMarket", Cond.fieldLinkNest RX2 79 "StrangerMarket$County" "foes" "[I" "StrangerMarket", Cond.fieldLinkNest RX10 149 "StrangerMarket$County" "foes" "[I" "StrangerMarket", Cond.fieldLinkNest RX4 83 "StrangerMarket$County" "foes" "[I" "StrangerMarket", Cond.fieldLinkNest RX4 71 "StrangerMarket$County" "stock" "[I" "StrangerMarket", Cond.fieldLinkNest RX2 132 "StrangerMarket$County" "stock" "[I" "StrangerMarket", Cond.fieldLinkNest RX4 72 "StrangerMarket$County" "wants" "[I" "StrangerMarket", Cond.fieldLinkNest RX9 116 "StrangerMarket$County" "wants" "[I" "StrangerMarket", Cond.fieldLinkNest RX2 138 "StrangerMarket$County" "wants" "[I" "StrangerMarket", Cond.fieldLinkNest RX9 113 "StrangerMarket$County" "price" "[I" "StrangerMarket", Cond.fieldLinkNest RX2 135 "StrangerMarket$County" "price" "[I" "StrangerMarket", Cond.fieldLinkNest RX10 180 "StrangerMarket$County" "price" "[I" "StrangerMarket", Cond.fieldLinkNest RX4 94 "StrangerMarket$County" "price" "[I" "StrangerMarket", Cond.fieldLinkNest RX9 76 "StrangerMarket$County" "deals" "I" "StrangerMarket", Cond.fieldLinkNest RX2 161 "StrangerMarket$County" "deals" "I" "StrangerMarket", Cond.fieldLinkNest RX4 118 "StrangerMarket$County" "deals" "I" "StrangerMarket", Cond.fieldLinkNest RX10 352 "StrangerMarket$County" "deals" "I" "StrangerMarket", Cond.fieldLinkNest RX4 73 "StrangerMarket$County" "veils" "I" "StrangerMarket", Cond.fieldLinkNest RX2 164 "StrangerMarket$County" "veils" "I" "StrangerMarket", Cond.fieldLinkNest RX10 354 "StrangerMarket$County" "veils" "I" "StrangerMarket", Cond.fieldLinkNest RX2 167 "StrangerMarket$County" "bell" "I" "StrangerMarket", Cond.fieldLinkNest RX4 129 "StrangerMarket$County" "bell" "I" "StrangerMarket", Cond.fieldLinkNest RX10 357 "StrangerMarket$County" "bell" "I" "StrangerMarket", Cond.fieldLinkNest RX10 122 "StrangerMarket$CountyReader" "draft" "LStrangerMarket$County;" "StrangerMarket", Cond.fieldLinkNest RX0 95 "StrangerMarket$Market" "day" "I" "StrangerMarket", Cond.fieldLinkNest RX10 193 "StrangerMarket$Market" "day" "I" "StrangerMarket", Cond.fieldLinkNest RX5 59 "StrangerMarket$Market" "home" "I" "StrangerMarket", Cond.fieldLinkNest RX10 155 "StrangerMarket$Market" "home" "I" "StrangerMarket", Cond.fieldLinkNest RX6 54 "StrangerMarket$Market" "home" "I" "StrangerMarket", Cond.fieldLinkNest RX5 54 "StrangerMarket$Market" "veiled" "I" "StrangerMarket", Cond.fieldLinkNest RX10 158 "StrangerMarket$Market" "veiled" "I" "StrangerMarket", Cond.fieldLinkNest RX6 63 "StrangerMarket$Market" "veiled" "I" "StrangerMarket", Cond.fieldLinkNest RX10 199 "StrangerMarket$Market" "veilsLeft" "I" "StrangerMarket", Cond.fieldLinkNest RX10 202 "StrangerMarket$Market" "bought" "I" "StrangerMarket", Cond.fieldLinkNest RX10 141 "StrangerMarket$Market" "coins" "[I" "StrangerMarket", Cond.fieldLinkNest RX6 84 "StrangerMarket$Market" "coins" "[I" "StrangerMarket", Cond.fieldLinkNest RX10 161 "StrangerMarket$Market" "hunger" "[I" "StrangerMarket", Cond.fieldLinkNest RX6 95 "StrangerMarket$Market" "hunger" "[I" "StrangerMarket", Cond.fieldLinkNest RX9 53 "StrangerMarket$Market" "stock" "[I" "StrangerMarket", Cond.fieldLinkNest RX10 174 "StrangerMarket$Market" "stock" "[I" "StrangerMarket", Cond.fieldLinkNest RX9 58 "StrangerMarket$Market" "wants" "[I" "StrangerMarket", Cond.fieldLinkNest RX10 177 "StrangerMarket$Market" "wants" "[I" "StrangerMarket", Cond.fieldLinkNest RX6 77 "StrangerMarket$Market" "wants" "[I" "StrangerMarket", Cond.fieldLinkNest RX9 79 "StrangerMarket$Market" "deals" "[I" "StrangerMarket", Cond.fieldLinkNest RX10 187 "StrangerMarket$Market" "deals" "[I" "StrangerMarket", Cond.fieldLinkNest RX10 254 "StrangerMarket$Ties" "asked" "I" "StrangerMarket", Cond.fieldLinkNest RX10 260 "StrangerMarket$Ties" "sellers" "I" "StrangerMarket", Cond.fieldLinkNest RX10 266 "StrangerMarket$Ties" "linkCount" "I" "StrangerMarket", Cond.fieldLinkNest RX10 269 "StrangerMarket$Ties" "links" "[I" "StrangerMarket", Cond.fieldLinkNest RX10 281 "StrangerMarket$Ties" "forgotten" "I" "StrangerMarket", Cond.methodLinkNest RX10 63 yX5_init "StrangerMarket", Cond.fieldLinkNest RX10 291 "StrangerMarket$Portrait" "length" "I" "StrangerMarket", Cond.fieldLinkNest RX10 309 "StrangerMarket$Book" "judged" "Z" "StrangerMarket", Cond.fieldLinkNest RX10 306 "StrangerMarket$Book" "why" "I" "StrangerMarket", Cond.fieldLinkNest RX10 303 "StrangerMarket$Book" "rightLines" "I" "StrangerMarket", Cond.fieldLinkNest RX10 313 "StrangerMarket$Book" "dayThen" "I" "StrangerMarket", Cond.fieldLinkNest RX10 316 "StrangerMarket$Book" "fedThen" "I" "StrangerMarket", Cond.methodLinkNest RX10 79 yX6_init "StrangerMarket", Cond.fieldLinkNest RX7 66 "StrangerMarket$Sentence" "ones" "I" "StrangerMarket", Cond.fieldLinkNest RX10 325 "StrangerMarket$Sentence" "ones" "I" "StrangerMarket", Cond.methodLinkNest RX7 11 yX6_init "StrangerMarket", Cond.fieldLinkNest RX10 320 "StrangerMarket$SentenceReader" "draft" "LStrangerMarket$Sentence;" "StrangerMarket", Cond.methodLinkNest RX10 93 yX3_init "StrangerMarket", Cond.methodLinkNest RX3 27 yX6_init "StrangerMarket", Cond.fieldLinkNest RX10 343 "StrangerMarket$Image" "isKept" "Z" "StrangerMarket", Cond.fieldLinkNest RX10 340 "StrangerMarket$Image" "land" "LStrangerMarket$County;" "StrangerMarket", Cond.fieldLinkNest RX10 341 "StrangerMarket$Image" "market" "LStrangerMarket$Market;" "StrangerMarket", Cond.fieldLinkNest RX10 342 "StrangerMarket$Image" "claim" "LStrangerMarket$Sentence;" "StrangerMarket", Cond.methodLinkNest RX1 68 yX10_cellOf "StrangerMarket", Cond.methodLinkNest RX2 152 yX10_cellOf "StrangerMarket", Cond.methodLinkNest RX2 158 yX10_has "StrangerMarket", Cond.methodLinkNest RX4 90 yX10_cellOf "StrangerMarket", Cond.methodLinkNest RX4 108 yX10_has "StrangerMarket", Cond.methodLinkNest RX4 115 yX10_pairOf "StrangerMarket", Cond.methodLinkNest RX9 45 yX10_cellOf "StrangerMarket", Cond.methodLinkNest RX9 49 yX10_has "StrangerMarket", Cond.methodLinkNest RX9 81 yX10_pairOf "StrangerMarket", Cond.methodLinkNest RX9 126 yX10_bitAt "StrangerMarket", Cond.methodLinkNest RX5 44 yX10_has "StrangerMarket", Cond.methodLinkNest RX6 59 yX10_has "StrangerMarket", Cond.methodLinkNest RX6 80 yX10_cellOf "StrangerMarket"]
theorem nw_0 : Cond.fieldLinkNest RX9 92 "StrangerMarket$Tape" "bytes" "[I" "StrangerMarket" ∈ NW := List.mem_of_getElem? (i := 0) rfl
theorem nw_1 : Cond.fieldLinkNest RX10 112 "StrangerMarket$Tape" "length" "I" "StrangerMarket" ∈ NW := List.mem_of_getElem? (i := 1) rfl
theorem nw_2 : Cond.fieldLinkNest RX9 87 "StrangerMarket$Tape" "length" "I" "StrangerMarket" ∈ NW := List.mem_of_getElem? (i := 2) rfl
theorem nw_3 : Cond.fieldLinkNest RX2 55 "StrangerMarket$Tape" "word" "I" "StrangerMarket" ∈ NW := List.mem_of_getElem? (i := 3) rfl
theorem nw_4 : Cond.fieldLinkNest RX0 56 "StrangerMarket$Tape" "word" "I" "StrangerMarket" ∈ NW := List.mem_of_getElem? (i := 4) rfl
theorem nw_5 : Cond.fieldLinkNest RX7 50 "StrangerMarket$Tape" "word" "I" "StrangerMarket" ∈ NW := List.mem_of_getElem? (i := 5) rfl
theorem nw_6 : Cond.fieldLinkNest RX7 57 "StrangerMarket$Tape" "sign" "I" "StrangerMarket" ∈ NW := List.mem_of_getElem? (i := 6) rfl
theorem nw_7 : Cond.fieldLinkNest RX2 116 "StrangerMarket$Tape" "letters" "J" "StrangerMarket" ∈ NW := List.mem_of_getElem? (i := 7) rfl
theorem nw_8 : Cond.fieldLinkNest RX10 131 "StrangerMarket$Tape" "faultKind" "I" "StrangerMarket" ∈ NW := List.mem_of_getElem? (i := 8) rfl
theorem nw_9 : Cond.fieldLinkNest RX10 119 "StrangerMarket$Tape" "faultPlace" "I" "StrangerMarket" ∈ NW := List.mem_of_getElem? (i := 9) rfl
theorem nw_10 : Cond.fieldLinkNest RX9 42 "StrangerMarket$County" "persons" "I" "StrangerMarket" ∈ NW := List.mem_of_getElem? (i := 10) rfl
theorem nw_11 : Cond.fieldLinkNest RX5 41 "StrangerMarket$County" "persons" "I" "StrangerMarket" ∈ NW := List.mem_of_getElem? (i := 11) rfl
theorem nw_12 : Cond.fieldLinkNest RX2 94 "StrangerMarket$County" "persons" "I" "StrangerMarket" ∈ NW := List.mem_of_getElem? (i := 12) rfl
theorem nw_13 : Cond.fieldLinkNest RX6 47 "StrangerMarket$County" "persons" "I" "StrangerMarket" ∈ NW := List.mem_of_getElem? (i := 13) rfl
theorem nw_14 : Cond.fieldLinkNest RX4 97 "StrangerMarket$County" "persons" "I" "StrangerMarket" ∈ NW := List.mem_of_getElem? (i := 14) rfl
theorem nw_15 : Cond.fieldLinkNest RX10 346 "StrangerMarket$County" "persons" "I" "StrangerMarket" ∈ NW := List.mem_of_getElem? (i := 15) rfl
theorem nw_16 : Cond.fieldLinkNest RX2 110 "StrangerMarket$County" "goods" "I" "StrangerMarket" ∈ NW := List.mem_of_getElem? (i := 16) rfl
theorem nw_17 : Cond.fieldLinkNest RX4 160 "StrangerMarket$County" "goods" "I" "StrangerMarket" ∈ NW := List.mem_of_getElem? (i := 17) rfl
theorem nw_18 : Cond.fieldLinkNest RX10 349 "StrangerMarket$County" "goods" "I" "StrangerMarket" ∈ NW := List.mem_of_getElem? (i := 18) rfl
theorem nw_19 : Cond.fieldLinkNest RX5 19 "StrangerMarket$County" "names" "[J" "StrangerMarket" ∈ NW := List.mem_of_getElem? (i := 19) rfl
theorem nw_20 : Cond.fieldLinkNest RX2 124 "StrangerMarket$County" "names" "[J" "StrangerMarket" ∈ NW := List.mem_of_getElem? (i := 20) rfl
theorem nw_21 : Cond.fieldLinkNest RX4 41 "StrangerMarket$County" "coins" "[I" "StrangerMarket" ∈ NW := List.mem_of_getElem? (i := 21) rfl
theorem nw_22 : Cond.fieldLinkNest RX2 107 "StrangerMarket$County" "coins" "[I" "StrangerMarket" ∈ NW := List.mem_of_getElem? (i := 22) rfl
theorem nw_23 : Cond.fieldLinkNest RX2 71 "StrangerMarket$County" "knows" "[I" "StrangerMarket" ∈ NW := List.mem_of_getElem? (i := 23) rfl
theorem nw_24 : Cond.fieldLinkNest RX4 76 "StrangerMarket$County" "knows" "[I" "StrangerMarket" ∈ NW := List.mem_of_getElem? (i := 24) rfl
theorem nw_25 : Cond.fieldLinkNest RX9 73 "StrangerMarket$County" "foes" "[I" "StrangerMarket" ∈ NW := List.mem_of_getElem? (i := 25) rfl
theorem nw_26 : Cond.fieldLinkNest RX2 79 "StrangerMarket$County" "foes" "[I" "StrangerMarket" ∈ NW := List.mem_of_getElem? (i := 26) rfl
theorem nw_27 : Cond.fieldLinkNest RX10 149 "StrangerMarket$County" "foes" "[I" "StrangerMarket" ∈ NW := List.mem_of_getElem? (i := 27) rfl
theorem nw_28 : Cond.fieldLinkNest RX4 83 "StrangerMarket$County" "foes" "[I" "StrangerMarket" ∈ NW := List.mem_of_getElem? (i := 28) rfl
theorem nw_29 : Cond.fieldLinkNest RX4 71 "StrangerMarket$County" "stock" "[I" "StrangerMarket" ∈ NW := List.mem_of_getElem? (i := 29) rfl
theorem nw_30 : Cond.fieldLinkNest RX2 132 "StrangerMarket$County" "stock" "[I" "StrangerMarket" ∈ NW := List.mem_of_getElem? (i := 30) rfl
theorem nw_31 : Cond.fieldLinkNest RX4 72 "StrangerMarket$County" "wants" "[I" "StrangerMarket" ∈ NW := List.mem_of_getElem? (i := 31) rfl
theorem nw_32 : Cond.fieldLinkNest RX9 116 "StrangerMarket$County" "wants" "[I" "StrangerMarket" ∈ NW := List.mem_of_getElem? (i := 32) rfl
theorem nw_33 : Cond.fieldLinkNest RX2 138 "StrangerMarket$County" "wants" "[I" "StrangerMarket" ∈ NW := List.mem_of_getElem? (i := 33) rfl
theorem nw_34 : Cond.fieldLinkNest RX9 113 "StrangerMarket$County" "price" "[I" "StrangerMarket" ∈ NW := List.mem_of_getElem? (i := 34) rfl
theorem nw_35 : Cond.fieldLinkNest RX2 135 "StrangerMarket$County" "price" "[I" "StrangerMarket" ∈ NW := List.mem_of_getElem? (i := 35) rfl
theorem nw_36 : Cond.fieldLinkNest RX10 180 "StrangerMarket$County" "price" "[I" "StrangerMarket" ∈ NW := List.mem_of_getElem? (i := 36) rfl
theorem nw_37 : Cond.fieldLinkNest RX4 94 "StrangerMarket$County" "price" "[I" "StrangerMarket" ∈ NW := List.mem_of_getElem? (i := 37) rfl
theorem nw_38 : Cond.fieldLinkNest RX9 76 "StrangerMarket$County" "deals" "I" "StrangerMarket" ∈ NW := List.mem_of_getElem? (i := 38) rfl
theorem nw_39 : Cond.fieldLinkNest RX2 161 "StrangerMarket$County" "deals" "I" "StrangerMarket" ∈ NW := List.mem_of_getElem? (i := 39) rfl
theorem nw_40 : Cond.fieldLinkNest RX4 118 "StrangerMarket$County" "deals" "I" "StrangerMarket" ∈ NW := List.mem_of_getElem? (i := 40) rfl
theorem nw_41 : Cond.fieldLinkNest RX10 352 "StrangerMarket$County" "deals" "I" "StrangerMarket" ∈ NW := List.mem_of_getElem? (i := 41) rfl
theorem nw_42 : Cond.fieldLinkNest RX4 73 "StrangerMarket$County" "veils" "I" "StrangerMarket" ∈ NW := List.mem_of_getElem? (i := 42) rfl
theorem nw_43 : Cond.fieldLinkNest RX2 164 "StrangerMarket$County" "veils" "I" "StrangerMarket" ∈ NW := List.mem_of_getElem? (i := 43) rfl
theorem nw_44 : Cond.fieldLinkNest RX10 354 "StrangerMarket$County" "veils" "I" "StrangerMarket" ∈ NW := List.mem_of_getElem? (i := 44) rfl
theorem nw_45 : Cond.fieldLinkNest RX2 167 "StrangerMarket$County" "bell" "I" "StrangerMarket" ∈ NW := List.mem_of_getElem? (i := 45) rfl
theorem nw_46 : Cond.fieldLinkNest RX4 129 "StrangerMarket$County" "bell" "I" "StrangerMarket" ∈ NW := List.mem_of_getElem? (i := 46) rfl
theorem nw_47 : Cond.fieldLinkNest RX10 357 "StrangerMarket$County" "bell" "I" "StrangerMarket" ∈ NW := List.mem_of_getElem? (i := 47) rfl
theorem nw_48 : Cond.fieldLinkNest RX10 122 "StrangerMarket$CountyReader" "draft" "LStrangerMarket$County;" "StrangerMarket" ∈ NW := List.mem_of_getElem? (i := 48) rfl
theorem nw_49 : Cond.fieldLinkNest RX0 95 "StrangerMarket$Market" "day" "I" "StrangerMarket" ∈ NW := List.mem_of_getElem? (i := 49) rfl
theorem nw_50 : Cond.fieldLinkNest RX10 193 "StrangerMarket$Market" "day" "I" "StrangerMarket" ∈ NW := List.mem_of_getElem? (i := 50) rfl
theorem nw_51 : Cond.fieldLinkNest RX5 59 "StrangerMarket$Market" "home" "I" "StrangerMarket" ∈ NW := List.mem_of_getElem? (i := 51) rfl
theorem nw_52 : Cond.fieldLinkNest RX10 155 "StrangerMarket$Market" "home" "I" "StrangerMarket" ∈ NW := List.mem_of_getElem? (i := 52) rfl
theorem nw_53 : Cond.fieldLinkNest RX6 54 "StrangerMarket$Market" "home" "I" "StrangerMarket" ∈ NW := List.mem_of_getElem? (i := 53) rfl
theorem nw_54 : Cond.fieldLinkNest RX5 54 "StrangerMarket$Market" "veiled" "I" "StrangerMarket" ∈ NW := List.mem_of_getElem? (i := 54) rfl
theorem nw_55 : Cond.fieldLinkNest RX10 158 "StrangerMarket$Market" "veiled" "I" "StrangerMarket" ∈ NW := List.mem_of_getElem? (i := 55) rfl
theorem nw_56 : Cond.fieldLinkNest RX6 63 "StrangerMarket$Market" "veiled" "I" "StrangerMarket" ∈ NW := List.mem_of_getElem? (i := 56) rfl
theorem nw_57 : Cond.fieldLinkNest RX10 199 "StrangerMarket$Market" "veilsLeft" "I" "StrangerMarket" ∈ NW := List.mem_of_getElem? (i := 57) rfl
theorem nw_58 : Cond.fieldLinkNest RX10 202 "StrangerMarket$Market" "bought" "I" "StrangerMarket" ∈ NW := List.mem_of_getElem? (i := 58) rfl
theorem nw_59 : Cond.fieldLinkNest RX10 141 "StrangerMarket$Market" "coins" "[I" "StrangerMarket" ∈ NW := List.mem_of_getElem? (i := 59) rfl
theorem nw_60 : Cond.fieldLinkNest RX6 84 "StrangerMarket$Market" "coins" "[I" "StrangerMarket" ∈ NW := List.mem_of_getElem? (i := 60) rfl
theorem nw_61 : Cond.fieldLinkNest RX10 161 "StrangerMarket$Market" "hunger" "[I" "StrangerMarket" ∈ NW := List.mem_of_getElem? (i := 61) rfl
theorem nw_62 : Cond.fieldLinkNest RX6 95 "StrangerMarket$Market" "hunger" "[I" "StrangerMarket" ∈ NW := List.mem_of_getElem? (i := 62) rfl
theorem nw_63 : Cond.fieldLinkNest RX9 53 "StrangerMarket$Market" "stock" "[I" "StrangerMarket" ∈ NW := List.mem_of_getElem? (i := 63) rfl
theorem nw_64 : Cond.fieldLinkNest RX10 174 "StrangerMarket$Market" "stock" "[I" "StrangerMarket" ∈ NW := List.mem_of_getElem? (i := 64) rfl
theorem nw_65 : Cond.fieldLinkNest RX9 58 "StrangerMarket$Market" "wants" "[I" "StrangerMarket" ∈ NW := List.mem_of_getElem? (i := 65) rfl
theorem nw_66 : Cond.fieldLinkNest RX10 177 "StrangerMarket$Market" "wants" "[I" "StrangerMarket" ∈ NW := List.mem_of_getElem? (i := 66) rfl
theorem nw_67 : Cond.fieldLinkNest RX6 77 "StrangerMarket$Market" "wants" "[I" "StrangerMarket" ∈ NW := List.mem_of_getElem? (i := 67) rfl
theorem nw_68 : Cond.fieldLinkNest RX9 79 "StrangerMarket$Market" "deals" "[I" "StrangerMarket" ∈ NW := List.mem_of_getElem? (i := 68) rfl
theorem nw_69 : Cond.fieldLinkNest RX10 187 "StrangerMarket$Market" "deals" "[I" "StrangerMarket" ∈ NW := List.mem_of_getElem? (i := 69) rfl
theorem nw_70 : Cond.fieldLinkNest RX10 254 "StrangerMarket$Ties" "asked" "I" "StrangerMarket" ∈ NW := List.mem_of_getElem? (i := 70) rfl
theorem nw_71 : Cond.fieldLinkNest RX10 260 "StrangerMarket$Ties" "sellers" "I" "StrangerMarket" ∈ NW := List.mem_of_getElem? (i := 71) rfl
theorem nw_72 : Cond.fieldLinkNest RX10 266 "StrangerMarket$Ties" "linkCount" "I" "StrangerMarket" ∈ NW := List.mem_of_getElem? (i := 72) rfl
theorem nw_73 : Cond.fieldLinkNest RX10 269 "StrangerMarket$Ties" "links" "[I" "StrangerMarket" ∈ NW := List.mem_of_getElem? (i := 73) rfl
theorem nw_74 : Cond.fieldLinkNest RX10 281 "StrangerMarket$Ties" "forgotten" "I" "StrangerMarket" ∈ NW := List.mem_of_getElem? (i := 74) rfl
theorem nw_75 : Cond.methodLinkNest RX10 63 yX5_init "StrangerMarket" ∈ NW := List.mem_of_getElem? (i := 75) rfl
theorem nw_76 : Cond.fieldLinkNest RX10 291 "StrangerMarket$Portrait" "length" "I" "StrangerMarket" ∈ NW := List.mem_of_getElem? (i := 76) rfl
theorem nw_77 : Cond.fieldLinkNest RX10 309 "StrangerMarket$Book" "judged" "Z" "StrangerMarket" ∈ NW := List.mem_of_getElem? (i := 77) rfl
theorem nw_78 : Cond.fieldLinkNest RX10 306 "StrangerMarket$Book" "why" "I" "StrangerMarket" ∈ NW := List.mem_of_getElem? (i := 78) rfl
theorem nw_79 : Cond.fieldLinkNest RX10 303 "StrangerMarket$Book" "rightLines" "I" "StrangerMarket" ∈ NW := List.mem_of_getElem? (i := 79) rfl
theorem nw_80 : Cond.fieldLinkNest RX10 313 "StrangerMarket$Book" "dayThen" "I" "StrangerMarket" ∈ NW := List.mem_of_getElem? (i := 80) rfl
theorem nw_81 : Cond.fieldLinkNest RX10 316 "StrangerMarket$Book" "fedThen" "I" "StrangerMarket" ∈ NW := List.mem_of_getElem? (i := 81) rfl
theorem nw_82 : Cond.methodLinkNest RX10 79 yX6_init "StrangerMarket" ∈ NW := List.mem_of_getElem? (i := 82) rfl
theorem nw_83 : Cond.fieldLinkNest RX7 66 "StrangerMarket$Sentence" "ones" "I" "StrangerMarket" ∈ NW := List.mem_of_getElem? (i := 83) rfl
theorem nw_84 : Cond.fieldLinkNest RX10 325 "StrangerMarket$Sentence" "ones" "I" "StrangerMarket" ∈ NW := List.mem_of_getElem? (i := 84) rfl
theorem nw_85 : Cond.methodLinkNest RX7 11 yX6_init "StrangerMarket" ∈ NW := List.mem_of_getElem? (i := 85) rfl
theorem nw_86 : Cond.fieldLinkNest RX10 320 "StrangerMarket$SentenceReader" "draft" "LStrangerMarket$Sentence;" "StrangerMarket" ∈ NW := List.mem_of_getElem? (i := 86) rfl
theorem nw_87 : Cond.methodLinkNest RX10 93 yX3_init "StrangerMarket" ∈ NW := List.mem_of_getElem? (i := 87) rfl
theorem nw_88 : Cond.methodLinkNest RX3 27 yX6_init "StrangerMarket" ∈ NW := List.mem_of_getElem? (i := 88) rfl
theorem nw_89 : Cond.fieldLinkNest RX10 343 "StrangerMarket$Image" "isKept" "Z" "StrangerMarket" ∈ NW := List.mem_of_getElem? (i := 89) rfl
theorem nw_90 : Cond.fieldLinkNest RX10 340 "StrangerMarket$Image" "land" "LStrangerMarket$County;" "StrangerMarket" ∈ NW := List.mem_of_getElem? (i := 90) rfl
theorem nw_91 : Cond.fieldLinkNest RX10 341 "StrangerMarket$Image" "market" "LStrangerMarket$Market;" "StrangerMarket" ∈ NW := List.mem_of_getElem? (i := 91) rfl
theorem nw_92 : Cond.fieldLinkNest RX10 342 "StrangerMarket$Image" "claim" "LStrangerMarket$Sentence;" "StrangerMarket" ∈ NW := List.mem_of_getElem? (i := 92) rfl
theorem nw_93 : Cond.methodLinkNest RX1 68 yX10_cellOf "StrangerMarket" ∈ NW := List.mem_of_getElem? (i := 93) rfl
theorem nw_94 : Cond.methodLinkNest RX2 152 yX10_cellOf "StrangerMarket" ∈ NW := List.mem_of_getElem? (i := 94) rfl
theorem nw_95 : Cond.methodLinkNest RX2 158 yX10_has "StrangerMarket" ∈ NW := List.mem_of_getElem? (i := 95) rfl
theorem nw_96 : Cond.methodLinkNest RX4 90 yX10_cellOf "StrangerMarket" ∈ NW := List.mem_of_getElem? (i := 96) rfl
theorem nw_97 : Cond.methodLinkNest RX4 108 yX10_has "StrangerMarket" ∈ NW := List.mem_of_getElem? (i := 97) rfl
theorem nw_98 : Cond.methodLinkNest RX4 115 yX10_pairOf "StrangerMarket" ∈ NW := List.mem_of_getElem? (i := 98) rfl
theorem nw_99 : Cond.methodLinkNest RX9 45 yX10_cellOf "StrangerMarket" ∈ NW := List.mem_of_getElem? (i := 99) rfl
theorem nw_100 : Cond.methodLinkNest RX9 49 yX10_has "StrangerMarket" ∈ NW := List.mem_of_getElem? (i := 100) rfl
theorem nw_101 : Cond.methodLinkNest RX9 81 yX10_pairOf "StrangerMarket" ∈ NW := List.mem_of_getElem? (i := 101) rfl
theorem nw_102 : Cond.methodLinkNest RX9 126 yX10_bitAt "StrangerMarket" ∈ NW := List.mem_of_getElem? (i := 102) rfl
theorem nw_103 : Cond.methodLinkNest RX5 44 yX10_has "StrangerMarket" ∈ NW := List.mem_of_getElem? (i := 103) rfl
theorem nw_104 : Cond.methodLinkNest RX6 59 yX10_has "StrangerMarket" ∈ NW := List.mem_of_getElem? (i := 104) rfl
theorem nw_105 : Cond.methodLinkNest RX6 80 yX10_cellOf "StrangerMarket" ∈ NW := List.mem_of_getElem? (i := 105) rfl
def nw_is : Cond → Bool
  | .fieldLinkNest .. => true
  | .methodLinkNest .. => true
  | _ => false
theorem nw_all : NW.all nw_is = true := by decide +kernel
theorem fm_in {big ws : List Cond} (ps : List Nat) (hp : ws = ps.filterMap (fun i => big[i]?)) : ∀ w ∈ ws, w ∈ big := by
  intro w hw
  rw [hp] at hw
  obtain ⟨i, -, hi⟩ := List.mem_filterMap.mp hw
  exact List.mem_of_getElem? hi
theorem nw_tbl : ∀ w ∈ NW, w ∈ lw_tbl := fun w hw => in_0 (fm_in (big := tables_1) [91, 94, 95, 101, 102, 103, 105, 109, 111, 112, 163, 164, 165, 166, 167, 168, 170, 171, 172, 174, 175, 177, 178, 180, 181, 183, 184, 185, 186, 188, 189, 191, 192, 193, 195, 196, 197, 198, 200, 201, 202, 203, 205, 206, 207, 209, 210, 211, 247, 270, 271, 273, 274, 275, 277, 278, 279, 281, 283, 285, 286, 288, 289, 292, 293, 295, 296, 297, 299, 300, 339, 341, 343, 345, 347, 368, 374, 394, 396, 398, 400, 402, 430, 435, 436, 462, 466, 476, 485, 486, 488, 490, 492, 673, 676, 686, 758, 781, 806, 870, 871, 877, 936, 1006, 1174, 1181] (by decide +kernel) w hw)
def NS (U : State) : Prop := ∀ w ∈ NW, va_Nw w U
theorem NS.same {u U : State} (h : u.vm = U.vm) (hZ : NS u) : NS U := fun w hw => va_Nw.same (by
  have := List.all_eq_true.mp nw_all w hw
  cases w <;> first | rfl | (cases this)) h (hZ w hw)
theorem NS.warm {s U : State} (hW : s.WarmedH U.vm) (hZ : NS s) : NS U := fun w hw => by
  have h1 := List.all_eq_true.mp nw_all w hw
  have h2 := hZ w hw
  cases w <;> first | exact va_Nw.warmF hW h2 | exact va_Nw.warmM hW h2 | (cases h1)
theorem NS.of {A : Array Value} {U : State} (h : ∀ w ∈ lw_tbl, w.before A U = true) : NS U := fun w hw => va_Nw.of (by
  have := List.all_eq_true.mp nw_all w hw
  cases w <;> first | rfl | (cases this)) (h w (nw_tbl w hw))
theorem hu_0 : ∀ w ∈ u_ws RX0 TX0 12, w ∈ TT := by
  have h2 : (u_ws RX0 TX0 12).all goodWord = true := by decide +kernel
  exact fun w h => tt_of (in_0 (fm_in (big := tables_1) [403, 405, 407, 409, 411, 413, 415, 417, 419, 421, 423, 425] (by decide +kernel) w h)) (List.all_eq_true.mp h2 w h)
theorem hu_1 : ∀ w ∈ u_ws RX1 TX1 12, w ∈ TT := by
  have h2 : (u_ws RX1 TX1 12).all goodWord = true := by decide +kernel
  exact fun w h => tt_of (in_0 (fm_in (big := tables_1) [212, 214, 216, 218, 220, 222, 224, 226, 228, 230, 232, 234] (by decide +kernel) w h)) (List.all_eq_true.mp h2 w h)
theorem hu_2 : ∀ w ∈ u_ws RX2 TX2 5, w ∈ TT := by
  have h2 : (u_ws RX2 TX2 5).all goodWord = true := by decide +kernel
  exact fun w h => tt_of (in_0 (fm_in (big := tables_1) [251, 253, 255, 257, 259] (by decide +kernel) w h)) (List.all_eq_true.mp h2 w h)
theorem hu_3 : ∀ w ∈ u_ws RX3 TX3 4, w ∈ TT := by
  have h2 : (u_ws RX3 TX3 4).all goodWord = true := by decide +kernel
  exact fun w h => tt_of (in_0 (fm_in (big := tables_1) [493, 495, 497, 499] (by decide +kernel) w h)) (List.all_eq_true.mp h2 w h)
theorem hu_4 : ∀ w ∈ u_ws RX4 TX4 13, w ∈ TT := by
  have h2 : (u_ws RX4 TX4 13).all goodWord = true := by decide +kernel
  exact fun w h => tt_of (in_0 (fm_in (big := tables_1) [302, 304, 306, 308, 310, 312, 314, 316, 318, 320, 322, 324, 326] (by decide +kernel) w h)) (List.all_eq_true.mp h2 w h)
theorem hu_5 : ∀ w ∈ u_ws RX5 TX5 2, w ∈ TT := by
  have h2 : (u_ws RX5 TX5 2).all goodWord = true := by decide +kernel
  exact fun w h => tt_of (in_0 (fm_in (big := tables_1) [375, 377] (by decide +kernel) w h)) (List.all_eq_true.mp h2 w h)
theorem hu_6 : ∀ w ∈ u_ws RX6 TX6 6, w ∈ TT := by
  have h2 : (u_ws RX6 TX6 6).all goodWord = true := by decide +kernel
  exact fun w h => tt_of (in_0 (fm_in (big := tables_1) [442, 444, 446, 448, 450, 452] (by decide +kernel) w h)) (List.all_eq_true.mp h2 w h)
theorem hu_7 : ∀ w ∈ u_ws RX7 TX7 3, w ∈ TT := by
  have h2 : (u_ws RX7 TX7 3).all goodWord = true := by decide +kernel
  exact fun w h => tt_of (in_0 (fm_in (big := tables_1) [467, 469, 471] (by decide +kernel) w h)) (List.all_eq_true.mp h2 w h)
theorem hu_8 : ∀ w ∈ u_ws RX8 TX8 14, w ∈ TT := by
  have h2 : (u_ws RX8 TX8 14).all goodWord = true := by decide +kernel
  exact fun w h => tt_of (in_0 (fm_in (big := tables_1) [114, 116, 118, 120, 122, 124, 126, 128, 130, 132, 134, 136, 138, 140] (by decide +kernel) w h)) (List.all_eq_true.mp h2 w h)
theorem hu_9 : ∀ w ∈ u_ws RX9 TX9 8, w ∈ TT := by
  have h2 : (u_ws RX9 TX9 8).all goodWord = true := by decide +kernel
  exact fun w h => tt_of (in_0 (fm_in (big := tables_1) [349, 351, 353, 355, 357, 359, 361, 363] (by decide +kernel) w h)) (List.all_eq_true.mp h2 w h)
theorem hu_10 : ∀ w ∈ u_ws RX10 TX10 14, w ∈ TT := by
  have h2 : (u_ws RX10 TX10 14).all goodWord = true := by decide +kernel
  exact fun w h => tt_of (in_0 (fm_in (big := tables_1) [532, 534, 536, 538, 540, 542, 544, 546, 548, 550, 552, 554, 556, 558] (by decide +kernel) w h)) (List.all_eq_true.mp h2 w h)
theorem hu_11 : ∀ w ∈ u_ws RX11 TX11 52, w ∈ TT := by
  have h2 : (u_ws RX11 TX11 52).all goodWord = true := by decide +kernel
  exact fun w h => tt_of (in_0 (fm_in (big := tables_1) [1374, 1376, 1378, 1380, 1382, 1384, 1386, 1388, 1390, 1392, 1394, 1396, 1398, 1400, 1402, 1404, 1406, 1408, 1410, 1412, 1414, 1416, 1418, 1420, 1422, 1424, 1426, 1428, 1430, 1432, 1434, 1436, 1438, 1440, 1442, 1444, 1446, 1448, 1450, 1452, 1454, 1456, 1458, 1460, 1462, 1464, 1466, 1468, 1470, 1472, 1474, 1476] (by decide +kernel) w h)) (List.all_eq_true.mp h2 w h)
