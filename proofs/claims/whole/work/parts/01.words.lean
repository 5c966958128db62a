/-! WORDS: the good words of the tables, a row each; the classes and their fields (by program: wip/gen/names.py) -/
def gw : List Cond := lw_tbl.filter goodWord
theorem gw_of {w : Cond} (h : w ∈ tables_1) (hg : goodWord w = true) : w ∈ gw := List.mem_filter.mpr ⟨List.mem_append_right _ h, hg⟩
theorem gw_pr {q : MethodName × Nat} (h : q ∈ lw_privs) : Cond.selects q.1.cls q.1 q.1 ∈ gw := List.mem_filter.mpr ⟨List.mem_append_left _ (List.mem_map.mpr ⟨q, h, rfl⟩), rfl⟩
theorem gw_tbl {w : Cond} (h : w ∈ gw) : w ∈ lw_tbl := (List.mem_filter.mp h).1
theorem gw_good {w : Cond} (h : w ∈ gw) : goodWord w = true := (List.mem_filter.mp h).2
theorem tm_1 {w : Cond} (h : w ∈ tables_1_1) : w ∈ tables_1 := List.mem_append_left _ h
theorem tm_2 {w : Cond} (h : w ∈ tables_1_2) : w ∈ tables_1 := List.mem_append_right _ (List.mem_append_left _ h)
theorem tm_3 {w : Cond} (h : w ∈ tables_1_3) : w ∈ tables_1 := List.mem_append_right _ (List.mem_append_right _ (List.mem_append_left _ h))
theorem tm_4 {w : Cond} (h : w ∈ tables_1_4) : w ∈ tables_1 := List.mem_append_right _ (List.mem_append_right _ (List.mem_append_right _ (List.mem_append_left _ h)))
theorem tm_5 {w : Cond} (h : w ∈ tables_1_5) : w ∈ tables_1 := List.mem_append_right _ (List.mem_append_right _ (List.mem_append_right _ (List.mem_append_right _ (h))))
theorem kw_0 : Cond.initialized "TextForgeLaw" ∈ gw := gw_of (tm_1 (List.mem_of_getElem? (i := 0) rfl)) rfl
theorem kw_1 : Cond.initialized "TextForge" ∈ gw := gw_of (tm_1 (List.mem_of_getElem? (i := 1) rfl)) rfl
theorem kw_2 : Cond.initialized "TextForge$Bytes" ∈ gw := gw_of (tm_1 (List.mem_of_getElem? (i := 2) rfl)) rfl
theorem kw_3 : Cond.initialized "java/lang/Math" ∈ gw := gw_of (tm_1 (List.mem_of_getElem? (i := 3) rfl)) rfl
theorem kw_4 : Cond.initialized "TextForge$Arguments" ∈ gw := gw_of (tm_1 (List.mem_of_getElem? (i := 4) rfl)) rfl
theorem kw_5 : Cond.initialized "TextForge$Directive" ∈ gw := gw_of (tm_1 (List.mem_of_getElem? (i := 5) rfl)) rfl
theorem kw_6 : Cond.initialized "TextForge$Printer" ∈ gw := gw_of (tm_1 (List.mem_of_getElem? (i := 6) rfl)) rfl
theorem kw_7 : Cond.initialized "TextForge$Numeral" ∈ gw := gw_of (tm_1 (List.mem_of_getElem? (i := 7) rfl)) rfl
theorem kw_8 : Cond.initialized "TextForge$Codes" ∈ gw := gw_of (tm_1 (List.mem_of_getElem? (i := 8) rfl)) rfl
theorem kw_9 : Cond.initialized "TextForgeModel" ∈ gw := gw_of (tm_1 (List.mem_of_getElem? (i := 9) rfl)) rfl
theorem kw_10 : Cond.initialized "java/lang/Throwable" ∈ gw := gw_of (tm_1 (List.mem_of_getElem? (i := 10) rfl)) rfl
theorem kw_11 : Cond.initialized "java/lang/Exception" ∈ gw := gw_of (tm_1 (List.mem_of_getElem? (i := 11) rfl)) rfl
theorem kw_12 : Cond.initialized "java/lang/RuntimeException" ∈ gw := gw_of (tm_1 (List.mem_of_getElem? (i := 12) rfl)) rfl
theorem kw_13 : Cond.initialized "java/lang/IllegalStateException" ∈ gw := gw_of (tm_1 (List.mem_of_getElem? (i := 13) rfl)) rfl
theorem kw_14 : Cond.initialized "TextForge$Argument" ∈ gw := gw_of (tm_1 (List.mem_of_getElem? (i := 14) rfl)) rfl
theorem kw_15 : Cond.initialized "java/lang/IllegalArgumentException" ∈ gw := gw_of (tm_1 (List.mem_of_getElem? (i := 15) rfl)) rfl
theorem kw_16 : Cond.initialized "java/lang/String" ∈ gw := gw_of (tm_1 (List.mem_of_getElem? (i := 16) rfl)) rfl
theorem kw_17 : Cond.initialized "java/lang/StringLatin1" ∈ gw := gw_of (tm_1 (List.mem_of_getElem? (i := 17) rfl)) rfl
theorem kw_18 : Cond.initialized "jdk/internal/util/Preconditions" ∈ gw := gw_of (tm_1 (List.mem_of_getElem? (i := 18) rfl)) rfl
theorem kw_19 : Cond.initialized "java/lang/StringUTF16" ∈ gw := gw_of (tm_1 (List.mem_of_getElem? (i := 19) rfl)) rfl
theorem kw_20 : Cond.initialized "TextForge$Quoting" ∈ gw := gw_of (tm_1 (List.mem_of_getElem? (i := 20) rfl)) rfl
theorem kw_21 : Cond.initialized "TextForge$Utf8" ∈ gw := gw_of (tm_1 (List.mem_of_getElem? (i := 21) rfl)) rfl
theorem kw_22 : Cond.initialized "java/util/NoSuchElementException" ∈ gw := gw_of (tm_1 (List.mem_of_getElem? (i := 22) rfl)) rfl
theorem kw_23 : Cond.classLink "TextForgeLaw" 8 "TextForge" ∈ gw := gw_of (tm_1 (List.mem_of_getElem? (i := 23) rfl)) rfl
theorem kw_24 : Cond.instantiable "TextForge" 7 ∈ gw := gw_of (tm_1 (List.mem_of_getElem? (i := 24) rfl)) rfl
theorem kw_25 : Cond.methodLink "TextForgeLaw" 42 ⟨"TextForge", "<init>", "()V"⟩ ∈ gw := gw_of (tm_1 (List.mem_of_getElem? (i := 25) rfl)) rfl
theorem kw_26 : Cond.instanceMethod ⟨"TextForge", "<init>", "()V"⟩ ∈ gw := gw_of (tm_1 (List.mem_of_getElem? (i := 26) rfl)) rfl
theorem kw_27 : Cond.code ⟨"TextForge", "<init>", "()V"⟩ prog_1_method_1_code 1 none ∈ gw := gw_of (tm_1 (List.mem_of_getElem? (i := 27) rfl)) rfl
theorem kw_28 : Cond.methodLink "TextForge" 1 ⟨"java/lang/Object", "<init>", "()V"⟩ ∈ gw := gw_of (tm_1 (List.mem_of_getElem? (i := 28) rfl)) rfl
theorem kw_29 : Cond.instanceMethod ⟨"java/lang/Object", "<init>", "()V"⟩ ∈ gw := gw_of (tm_1 (List.mem_of_getElem? (i := 29) rfl)) rfl
theorem kw_30 : Cond.code ⟨"java/lang/Object", "<init>", "()V"⟩ object_method_1_code 1 none ∈ gw := gw_of (tm_1 (List.mem_of_getElem? (i := 30) rfl)) rfl
theorem kw_31 : Cond.classLink "TextForge" 7 "TextForge$Bytes" ∈ gw := gw_of (tm_1 (List.mem_of_getElem? (i := 31) rfl)) rfl
theorem kw_32 : Cond.instantiable "TextForge$Bytes" 2 ∈ gw := gw_of (tm_1 (List.mem_of_getElem? (i := 32) rfl)) rfl
theorem kw_33 : Cond.methodLink "TextForge" 11 ⟨"TextForge$Bytes", "<init>", "(I)V"⟩ ∈ gw := gw_of (tm_1 (List.mem_of_getElem? (i := 33) rfl)) rfl
theorem kw_34 : Cond.instanceMethod ⟨"TextForge$Bytes", "<init>", "(I)V"⟩ ∈ gw := gw_of (tm_1 (List.mem_of_getElem? (i := 34) rfl)) rfl
theorem kw_35 : Cond.code ⟨"TextForge$Bytes", "<init>", "(I)V"⟩ prog_4_method_1_code 2 none ∈ gw := gw_of (tm_1 (List.mem_of_getElem? (i := 35) rfl)) rfl
theorem kw_36 : Cond.methodLink "TextForge$Bytes" 1 ⟨"java/lang/Object", "<init>", "()V"⟩ ∈ gw := gw_of (tm_1 (List.mem_of_getElem? (i := 36) rfl)) rfl
theorem kw_37 : Cond.methodLink "TextForge$Bytes" 13 ⟨"java/lang/Math", "max", "(II)I"⟩ ∈ gw := gw_of (tm_1 (List.mem_of_getElem? (i := 37) rfl)) rfl
theorem kw_38 : Cond.static ⟨"java/lang/Math", "max", "(II)I"⟩ ∈ gw := gw_of (tm_1 (List.mem_of_getElem? (i := 38) rfl)) rfl
theorem kw_39 : Cond.code ⟨"java/lang/Math", "max", "(II)I"⟩ prog_16_method_65_code 2 (some .int) ∈ gw := gw_of (tm_1 (List.mem_of_getElem? (i := 39) rfl)) rfl
theorem kw_40 : Cond.fieldLink "TextForge$Bytes" 19 "TextForge$Bytes" "row" "[B" ∈ gw := gw_of (tm_1 (List.mem_of_getElem? (i := 40) rfl)) rfl
theorem kw_41 : Cond.fieldLink "TextForge$Bytes" 7 "TextForge$Bytes" "length" "I" ∈ gw := gw_of (tm_1 (List.mem_of_getElem? (i := 41) rfl)) rfl
theorem kw_42 : Cond.laysFinal "TextForge$Bytes" "TextForge$Bytes" "row" "[B" ∈ gw := gw_of (tm_1 (List.mem_of_getElem? (i := 42) rfl)) rfl
theorem kw_43 : Cond.soleField "TextForge$Bytes" "row" ∈ gw := gw_of (tm_1 (List.mem_of_getElem? (i := 43) rfl)) rfl
theorem kw_44 : Cond.lays "TextForge$Bytes" "TextForge$Bytes" "length" "I" ∈ gw := gw_of (tm_1 (List.mem_of_getElem? (i := 44) rfl)) rfl
theorem kw_45 : Cond.soleField "TextForge$Bytes" "length" ∈ gw := gw_of (tm_1 (List.mem_of_getElem? (i := 45) rfl)) rfl
theorem tw_46 : Cond.superclass "TextForge$Bytes" "java/lang/Object" ∈ lw_tbl := List.mem_append_right _ (tm_1 (List.mem_of_getElem? (i := 46) rfl))
theorem kw_47 : Cond.arrayClass .byte ∈ gw := gw_of (tm_1 (List.mem_of_getElem? (i := 47) rfl)) rfl
theorem kw_48 : Cond.classLink "TextForge" 21 "TextForge$Arguments" ∈ gw := gw_of (tm_1 (List.mem_of_getElem? (i := 48) rfl)) rfl
theorem kw_49 : Cond.instantiable "TextForge$Arguments" 3 ∈ gw := gw_of (tm_1 (List.mem_of_getElem? (i := 49) rfl)) rfl
theorem tw_50 : Cond.methodLinkNest "TextForge" 23 ⟨"TextForge$Arguments", "<init>", "()V"⟩ "TextForge" ∈ lw_tbl := List.mem_append_right _ (tm_1 (List.mem_of_getElem? (i := 50) rfl))
theorem kw_51 : Cond.instanceMethod ⟨"TextForge$Arguments", "<init>", "()V"⟩ ∈ gw := gw_of (tm_1 (List.mem_of_getElem? (i := 51) rfl)) rfl
theorem kw_52 : Cond.code ⟨"TextForge$Arguments", "<init>", "()V"⟩ prog_3_method_1_code 1 none ∈ gw := gw_of (tm_1 (List.mem_of_getElem? (i := 52) rfl)) rfl
theorem kw_53 : Cond.methodLink "TextForge$Arguments" 1 ⟨"java/lang/Object", "<init>", "()V"⟩ ∈ gw := gw_of (tm_1 (List.mem_of_getElem? (i := 53) rfl)) rfl
theorem kw_54 : Cond.classLink "TextForge$Arguments" 9 "TextForge$Argument" ∈ gw := gw_of (tm_1 (List.mem_of_getElem? (i := 54) rfl)) rfl
theorem tw_55 : Cond.arrayOver (.object "TextForge$Argument") ∈ lw_tbl := List.mem_append_right _ (tm_1 (List.mem_of_getElem? (i := 55) rfl))
theorem kw_56 : Cond.fieldLink "TextForge$Arguments" 11 "TextForge$Arguments" "row" "[LTextForge$Argument;" ∈ gw := gw_of (tm_1 (List.mem_of_getElem? (i := 56) rfl)) rfl
theorem kw_57 : Cond.fieldLink "TextForge$Arguments" 15 "TextForge$Arguments" "count" "I" ∈ gw := gw_of (tm_1 (List.mem_of_getElem? (i := 57) rfl)) rfl
theorem kw_58 : Cond.fieldLink "TextForge$Arguments" 19 "TextForge$Arguments" "used" "I" ∈ gw := gw_of (tm_1 (List.mem_of_getElem? (i := 58) rfl)) rfl
theorem kw_59 : Cond.laysFinal "TextForge$Arguments" "TextForge$Arguments" "row" "[LTextForge$Argument;" ∈ gw := gw_of (tm_1 (List.mem_of_getElem? (i := 59) rfl)) rfl
theorem kw_60 : Cond.soleField "TextForge$Arguments" "row" ∈ gw := gw_of (tm_1 (List.mem_of_getElem? (i := 60) rfl)) rfl
theorem kw_61 : Cond.lays "TextForge$Arguments" "TextForge$Arguments" "count" "I" ∈ gw := gw_of (tm_1 (List.mem_of_getElem? (i := 61) rfl)) rfl
theorem kw_62 : Cond.soleField "TextForge$Arguments" "count" ∈ gw := gw_of (tm_1 (List.mem_of_getElem? (i := 62) rfl)) rfl
theorem kw_63 : Cond.lays "TextForge$Arguments" "TextForge$Arguments" "used" "I" ∈ gw := gw_of (tm_1 (List.mem_of_getElem? (i := 63) rfl)) rfl
theorem kw_64 : Cond.soleField "TextForge$Arguments" "used" ∈ gw := gw_of (tm_1 (List.mem_of_getElem? (i := 64) rfl)) rfl
theorem tw_65 : Cond.superclass "TextForge$Arguments" "java/lang/Object" ∈ lw_tbl := List.mem_append_right _ (tm_1 (List.mem_of_getElem? (i := 65) rfl))
theorem kw_66 : Cond.classLink "TextForge" 28 "TextForge$Directive" ∈ gw := gw_of (tm_1 (List.mem_of_getElem? (i := 66) rfl)) rfl
theorem kw_67 : Cond.instantiable "TextForge$Directive" 6 ∈ gw := gw_of (tm_1 (List.mem_of_getElem? (i := 67) rfl)) rfl
theorem tw_68 : Cond.methodLinkNest "TextForge" 30 ⟨"TextForge$Directive", "<init>", "()V"⟩ "TextForge" ∈ lw_tbl := List.mem_append_right _ (tm_1 (List.mem_of_getElem? (i := 68) rfl))
theorem kw_69 : Cond.instanceMethod ⟨"TextForge$Directive", "<init>", "()V"⟩ ∈ gw := gw_of (tm_1 (List.mem_of_getElem? (i := 69) rfl)) rfl
theorem kw_70 : Cond.code ⟨"TextForge$Directive", "<init>", "()V"⟩ prog_6_method_1_code 1 none ∈ gw := gw_of (tm_1 (List.mem_of_getElem? (i := 70) rfl)) rfl
theorem kw_71 : Cond.methodLink "TextForge$Directive" 1 ⟨"java/lang/Object", "<init>", "()V"⟩ ∈ gw := gw_of (tm_1 (List.mem_of_getElem? (i := 71) rfl)) rfl
theorem kw_72 : Cond.fieldLink "TextForge$Directive" 9 "TextForge$Directive" "state" "I" ∈ gw := gw_of (tm_1 (List.mem_of_getElem? (i := 72) rfl)) rfl
theorem kw_73 : Cond.fieldLink "TextForge$Directive" 13 "TextForge$Directive" "minus" "Z" ∈ gw := gw_of (tm_1 (List.mem_of_getElem? (i := 73) rfl)) rfl
theorem kw_74 : Cond.fieldLink "TextForge$Directive" 17 "TextForge$Directive" "plus" "Z" ∈ gw := gw_of (tm_1 (List.mem_of_getElem? (i := 74) rfl)) rfl
theorem kw_75 : Cond.fieldLink "TextForge$Directive" 20 "TextForge$Directive" "zero" "Z" ∈ gw := gw_of (tm_1 (List.mem_of_getElem? (i := 75) rfl)) rfl
theorem kw_76 : Cond.fieldLink "TextForge$Directive" 23 "TextForge$Directive" "width" "I" ∈ gw := gw_of (tm_1 (List.mem_of_getElem? (i := 76) rfl)) rfl
theorem kw_77 : Cond.fieldLink "TextForge$Directive" 26 "TextForge$Directive" "letter" "I" ∈ gw := gw_of (tm_1 (List.mem_of_getElem? (i := 77) rfl)) rfl
theorem kw_78 : Cond.lays "TextForge$Directive" "TextForge$Directive" "state" "I" ∈ gw := gw_of (tm_1 (List.mem_of_getElem? (i := 78) rfl)) rfl
theorem kw_79 : Cond.soleField "TextForge$Directive" "state" ∈ gw := gw_of (tm_1 (List.mem_of_getElem? (i := 79) rfl)) rfl
theorem kw_80 : Cond.lays "TextForge$Directive" "TextForge$Directive" "minus" "Z" ∈ gw := gw_of (tm_1 (List.mem_of_getElem? (i := 80) rfl)) rfl
theorem kw_81 : Cond.soleField "TextForge$Directive" "minus" ∈ gw := gw_of (tm_1 (List.mem_of_getElem? (i := 81) rfl)) rfl
theorem kw_82 : Cond.lays "TextForge$Directive" "TextForge$Directive" "plus" "Z" ∈ gw := gw_of (tm_1 (List.mem_of_getElem? (i := 82) rfl)) rfl
theorem kw_83 : Cond.soleField "TextForge$Directive" "plus" ∈ gw := gw_of (tm_1 (List.mem_of_getElem? (i := 83) rfl)) rfl
theorem kw_84 : Cond.lays "TextForge$Directive" "TextForge$Directive" "zero" "Z" ∈ gw := gw_of (tm_1 (List.mem_of_getElem? (i := 84) rfl)) rfl
theorem kw_85 : Cond.soleField "TextForge$Directive" "zero" ∈ gw := gw_of (tm_1 (List.mem_of_getElem? (i := 85) rfl)) rfl
theorem kw_86 : Cond.lays "TextForge$Directive" "TextForge$Directive" "width" "I" ∈ gw := gw_of (tm_1 (List.mem_of_getElem? (i := 86) rfl)) rfl
theorem kw_87 : Cond.soleField "TextForge$Directive" "width" ∈ gw := gw_of (tm_1 (List.mem_of_getElem? (i := 87) rfl)) rfl
theorem kw_88 : Cond.lays "TextForge$Directive" "TextForge$Directive" "letter" "I" ∈ gw := gw_of (tm_1 (List.mem_of_getElem? (i := 88) rfl)) rfl
theorem kw_89 : Cond.soleField "TextForge$Directive" "letter" ∈ gw := gw_of (tm_1 (List.mem_of_getElem? (i := 89) rfl)) rfl
theorem tw_90 : Cond.superclass "TextForge$Directive" "java/lang/Object" ∈ lw_tbl := List.mem_append_right _ (tm_1 (List.mem_of_getElem? (i := 90) rfl))
theorem kw_91 : Cond.classLink "TextForge" 35 "TextForge$Printer" ∈ gw := gw_of (tm_1 (List.mem_of_getElem? (i := 91) rfl)) rfl
theorem kw_92 : Cond.instantiable "TextForge$Printer" 1 ∈ gw := gw_of (tm_1 (List.mem_of_getElem? (i := 92) rfl)) rfl
theorem tw_93 : Cond.methodLinkNest "TextForge" 37 ⟨"TextForge$Printer", "<init>", "()V"⟩ "TextForge" ∈ lw_tbl := List.mem_append_right _ (tm_1 (List.mem_of_getElem? (i := 93) rfl))
theorem kw_94 : Cond.instanceMethod ⟨"TextForge$Printer", "<init>", "()V"⟩ ∈ gw := gw_of (tm_1 (List.mem_of_getElem? (i := 94) rfl)) rfl
theorem kw_95 : Cond.code ⟨"TextForge$Printer", "<init>", "()V"⟩ prog_8_method_1_code 1 none ∈ gw := gw_of (tm_1 (List.mem_of_getElem? (i := 95) rfl)) rfl
theorem kw_96 : Cond.methodLink "TextForge$Printer" 1 ⟨"java/lang/Object", "<init>", "()V"⟩ ∈ gw := gw_of (tm_1 (List.mem_of_getElem? (i := 96) rfl)) rfl
theorem kw_97 : Cond.classLink "TextForge$Printer" 7 "TextForge$Numeral" ∈ gw := gw_of (tm_1 (List.mem_of_getElem? (i := 97) rfl)) rfl
theorem kw_98 : Cond.instantiable "TextForge$Numeral" 2 ∈ gw := gw_of (tm_1 (List.mem_of_getElem? (i := 98) rfl)) rfl
theorem tw_99 : Cond.methodLinkNest "TextForge$Printer" 9 ⟨"TextForge$Numeral", "<init>", "()V"⟩ "TextForge" ∈ lw_tbl := List.mem_append_right _ (tm_1 (List.mem_of_getElem? (i := 99) rfl))
theorem kw_100 : Cond.instanceMethod ⟨"TextForge$Numeral", "<init>", "()V"⟩ ∈ gw := gw_of (tm_1 (List.mem_of_getElem? (i := 100) rfl)) rfl
theorem kw_101 : Cond.code ⟨"TextForge$Numeral", "<init>", "()V"⟩ prog_7_method_1_code 1 none ∈ gw := gw_of (tm_1 (List.mem_of_getElem? (i := 101) rfl)) rfl
theorem kw_102 : Cond.methodLink "TextForge$Numeral" 1 ⟨"java/lang/Object", "<init>", "()V"⟩ ∈ gw := gw_of (tm_1 (List.mem_of_getElem? (i := 102) rfl)) rfl
theorem kw_103 : Cond.fieldLink "TextForge$Numeral" 7 "TextForge$Numeral" "digits" "[B" ∈ gw := gw_of (tm_1 (List.mem_of_getElem? (i := 103) rfl)) rfl
theorem kw_104 : Cond.fieldLink "TextForge$Numeral" 13 "TextForge$Numeral" "count" "I" ∈ gw := gw_of (tm_1 (List.mem_of_getElem? (i := 104) rfl)) rfl
theorem kw_105 : Cond.laysFinal "TextForge$Numeral" "TextForge$Numeral" "digits" "[B" ∈ gw := gw_of (tm_1 (List.mem_of_getElem? (i := 105) rfl)) rfl
theorem kw_106 : Cond.soleField "TextForge$Numeral" "digits" ∈ gw := gw_of (tm_1 (List.mem_of_getElem? (i := 106) rfl)) rfl
theorem kw_107 : Cond.lays "TextForge$Numeral" "TextForge$Numeral" "count" "I" ∈ gw := gw_of (tm_1 (List.mem_of_getElem? (i := 107) rfl)) rfl
theorem kw_108 : Cond.soleField "TextForge$Numeral" "count" ∈ gw := gw_of (tm_1 (List.mem_of_getElem? (i := 108) rfl)) rfl
theorem tw_109 : Cond.superclass "TextForge$Numeral" "java/lang/Object" ∈ lw_tbl := List.mem_append_right _ (tm_1 (List.mem_of_getElem? (i := 109) rfl))
theorem kw_110 : Cond.fieldLink "TextForge$Printer" 10 "TextForge$Printer" "numeral" "LTextForge$Numeral;" ∈ gw := gw_of (tm_1 (List.mem_of_getElem? (i := 110) rfl)) rfl
theorem kw_111 : Cond.laysFinal "TextForge$Printer" "TextForge$Printer" "numeral" "LTextForge$Numeral;" ∈ gw := gw_of (tm_1 (List.mem_of_getElem? (i := 111) rfl)) rfl
theorem kw_112 : Cond.soleField "TextForge$Printer" "numeral" ∈ gw := gw_of (tm_1 (List.mem_of_getElem? (i := 112) rfl)) rfl
theorem tw_113 : Cond.superclass "TextForge$Printer" "java/lang/Object" ∈ lw_tbl := List.mem_append_right _ (tm_1 (List.mem_of_getElem? (i := 113) rfl))
theorem kw_114 : Cond.classLink "TextForge" 42 "TextForge$Codes" ∈ gw := gw_of (tm_1 (List.mem_of_getElem? (i := 114) rfl)) rfl
theorem kw_115 : Cond.instantiable "TextForge$Codes" 3 ∈ gw := gw_of (tm_1 (List.mem_of_getElem? (i := 115) rfl)) rfl
theorem tw_116 : Cond.methodLinkNest "TextForge" 44 ⟨"TextForge$Codes", "<init>", "()V"⟩ "TextForge" ∈ lw_tbl := List.mem_append_right _ (tm_1 (List.mem_of_getElem? (i := 116) rfl))
theorem kw_117 : Cond.instanceMethod ⟨"TextForge$Codes", "<init>", "()V"⟩ ∈ gw := gw_of (tm_1 (List.mem_of_getElem? (i := 117) rfl)) rfl
theorem kw_118 : Cond.code ⟨"TextForge$Codes", "<init>", "()V"⟩ prog_5_method_1_code 1 none ∈ gw := gw_of (tm_1 (List.mem_of_getElem? (i := 118) rfl)) rfl
theorem kw_119 : Cond.methodLink "TextForge$Codes" 1 ⟨"java/lang/Object", "<init>", "()V"⟩ ∈ gw := gw_of (tm_1 (List.mem_of_getElem? (i := 119) rfl)) rfl
theorem kw_120 : Cond.fieldLink "TextForge$Codes" 7 "TextForge$Codes" "found" "[I" ∈ gw := gw_of (tm_1 (List.mem_of_getElem? (i := 120) rfl)) rfl
theorem kw_121 : Cond.fieldLink "TextForge$Codes" 13 "TextForge$Codes" "places" "[I" ∈ gw := gw_of (tm_1 (List.mem_of_getElem? (i := 121) rfl)) rfl
theorem kw_122 : Cond.fieldLink "TextForge$Codes" 16 "TextForge$Codes" "count" "I" ∈ gw := gw_of (tm_1 (List.mem_of_getElem? (i := 122) rfl)) rfl
theorem kw_123 : Cond.lays "TextForge$Codes" "TextForge$Codes" "found" "[I" ∈ gw := gw_of (tm_1 (List.mem_of_getElem? (i := 123) rfl)) rfl
theorem kw_124 : Cond.soleField "TextForge$Codes" "found" ∈ gw := gw_of (tm_1 (List.mem_of_getElem? (i := 124) rfl)) rfl
theorem kw_125 : Cond.lays "TextForge$Codes" "TextForge$Codes" "places" "[I" ∈ gw := gw_of (tm_1 (List.mem_of_getElem? (i := 125) rfl)) rfl
theorem kw_126 : Cond.soleField "TextForge$Codes" "places" ∈ gw := gw_of (tm_1 (List.mem_of_getElem? (i := 126) rfl)) rfl
theorem kw_127 : Cond.lays "TextForge$Codes" "TextForge$Codes" "count" "I" ∈ gw := gw_of (tm_1 (List.mem_of_getElem? (i := 127) rfl)) rfl
theorem kw_128 : Cond.soleField "TextForge$Codes" "count" ∈ gw := gw_of (tm_1 (List.mem_of_getElem? (i := 128) rfl)) rfl
theorem tw_129 : Cond.superclass "TextForge$Codes" "java/lang/Object" ∈ lw_tbl := List.mem_append_right _ (tm_1 (List.mem_of_getElem? (i := 129) rfl))
theorem kw_130 : Cond.arrayClass .int ∈ gw := gw_of (tm_1 (List.mem_of_getElem? (i := 130) rfl)) rfl
theorem kw_131 : Cond.fieldLink "TextForge" 14 "TextForge" "fed" "LTextForge$Bytes;" ∈ gw := gw_of (tm_1 (List.mem_of_getElem? (i := 131) rfl)) rfl
theorem kw_132 : Cond.fieldLink "TextForge" 18 "TextForge" "result" "LTextForge$Bytes;" ∈ gw := gw_of (tm_1 (List.mem_of_getElem? (i := 132) rfl)) rfl
theorem kw_133 : Cond.fieldLink "TextForge" 24 "TextForge" "arguments" "LTextForge$Arguments;" ∈ gw := gw_of (tm_1 (List.mem_of_getElem? (i := 133) rfl)) rfl
theorem kw_134 : Cond.fieldLink "TextForge" 31 "TextForge" "directive" "LTextForge$Directive;" ∈ gw := gw_of (tm_1 (List.mem_of_getElem? (i := 134) rfl)) rfl
theorem kw_135 : Cond.fieldLink "TextForge" 38 "TextForge" "printer" "LTextForge$Printer;" ∈ gw := gw_of (tm_1 (List.mem_of_getElem? (i := 135) rfl)) rfl
theorem kw_136 : Cond.fieldLink "TextForge" 45 "TextForge" "codes" "LTextForge$Codes;" ∈ gw := gw_of (tm_1 (List.mem_of_getElem? (i := 136) rfl)) rfl
theorem kw_137 : Cond.fieldLink "TextForge" 49 "TextForge" "latestNumber" "J" ∈ gw := gw_of (tm_1 (List.mem_of_getElem? (i := 137) rfl)) rfl
theorem kw_138 : Cond.laysFinal "TextForge" "TextForge" "fed" "LTextForge$Bytes;" ∈ gw := gw_of (tm_1 (List.mem_of_getElem? (i := 138) rfl)) rfl
theorem kw_139 : Cond.soleField "TextForge" "fed" ∈ gw := gw_of (tm_1 (List.mem_of_getElem? (i := 139) rfl)) rfl
theorem kw_140 : Cond.laysFinal "TextForge" "TextForge" "result" "LTextForge$Bytes;" ∈ gw := gw_of (tm_1 (List.mem_of_getElem? (i := 140) rfl)) rfl
theorem kw_141 : Cond.soleField "TextForge" "result" ∈ gw := gw_of (tm_1 (List.mem_of_getElem? (i := 141) rfl)) rfl
theorem kw_142 : Cond.laysFinal "TextForge" "TextForge" "arguments" "LTextForge$Arguments;" ∈ gw := gw_of (tm_1 (List.mem_of_getElem? (i := 142) rfl)) rfl
theorem kw_143 : Cond.soleField "TextForge" "arguments" ∈ gw := gw_of (tm_1 (List.mem_of_getElem? (i := 143) rfl)) rfl
theorem kw_144 : Cond.laysFinal "TextForge" "TextForge" "directive" "LTextForge$Directive;" ∈ gw := gw_of (tm_1 (List.mem_of_getElem? (i := 144) rfl)) rfl
theorem kw_145 : Cond.soleField "TextForge" "directive" ∈ gw := gw_of (tm_1 (List.mem_of_getElem? (i := 145) rfl)) rfl
theorem kw_146 : Cond.laysFinal "TextForge" "TextForge" "printer" "LTextForge$Printer;" ∈ gw := gw_of (tm_1 (List.mem_of_getElem? (i := 146) rfl)) rfl
theorem kw_147 : Cond.soleField "TextForge" "printer" ∈ gw := gw_of (tm_1 (List.mem_of_getElem? (i := 147) rfl)) rfl
theorem kw_148 : Cond.laysFinal "TextForge" "TextForge" "codes" "LTextForge$Codes;" ∈ gw := gw_of (tm_1 (List.mem_of_getElem? (i := 148) rfl)) rfl
theorem kw_149 : Cond.soleField "TextForge" "codes" ∈ gw := gw_of (tm_1 (List.mem_of_getElem? (i := 149) rfl)) rfl
theorem kw_150 : Cond.lays "TextForge" "TextForge" "latestNumber" "J" ∈ gw := gw_of (tm_1 (List.mem_of_getElem? (i := 150) rfl)) rfl
theorem kw_151 : Cond.soleField "TextForge" "latestNumber" ∈ gw := gw_of (tm_1 (List.mem_of_getElem? (i := 151) rfl)) rfl
theorem tw_152 : Cond.superclass "TextForge" "java/lang/Object" ∈ lw_tbl := List.mem_append_right _ (tm_1 (List.mem_of_getElem? (i := 152) rfl))
theorem kw_153 : Cond.methodLink "TextForgeLaw" 46 ⟨"TextForge", "feed", "(IIIII)Z"⟩ ∈ gw := gw_of (tm_1 (List.mem_of_getElem? (i := 153) rfl)) rfl
theorem kw_154 : Cond.instanceMethod ⟨"TextForge", "feed", "(IIIII)Z"⟩ ∈ gw := gw_of (tm_1 (List.mem_of_getElem? (i := 154) rfl)) rfl
theorem kw_155 : Cond.selects "TextForge" ⟨"TextForge", "feed", "(IIIII)Z"⟩ ⟨"TextForge", "feed", "(IIIII)Z"⟩ ∈ gw := gw_of (tm_1 (List.mem_of_getElem? (i := 155) rfl)) rfl
theorem kw_156 : Cond.code ⟨"TextForge", "feed", "(IIIII)Z"⟩ prog_1_method_2_code 6 (some .boolean) ∈ gw := gw_of (tm_1 (List.mem_of_getElem? (i := 156) rfl)) rfl
theorem kw_157 : Cond.methodLink "TextForge" 53 ⟨"TextForge$Bytes", "length", "()I"⟩ ∈ gw := gw_of (tm_1 (List.mem_of_getElem? (i := 157) rfl)) rfl
theorem kw_158 : Cond.instanceMethod ⟨"TextForge$Bytes", "length", "()I"⟩ ∈ gw := gw_of (tm_1 (List.mem_of_getElem? (i := 158) rfl)) rfl
theorem kw_159 : Cond.selects "TextForge$Bytes" ⟨"TextForge$Bytes", "length", "()I"⟩ ⟨"TextForge$Bytes", "length", "()I"⟩ ∈ gw := gw_of (tm_1 (List.mem_of_getElem? (i := 159) rfl)) rfl
theorem kw_160 : Cond.code ⟨"TextForge$Bytes", "length", "()I"⟩ prog_4_method_2_code 1 (some .int) ∈ gw := gw_of (tm_1 (List.mem_of_getElem? (i := 160) rfl)) rfl
theorem kw_161 : Cond.methodLink "TextForge" 57 ⟨"TextForge$Bytes", "addFourBytes", "(I)V"⟩ ∈ gw := gw_of (tm_1 (List.mem_of_getElem? (i := 161) rfl)) rfl
theorem kw_162 : Cond.instanceMethod ⟨"TextForge$Bytes", "addFourBytes", "(I)V"⟩ ∈ gw := gw_of (tm_1 (List.mem_of_getElem? (i := 162) rfl)) rfl
theorem kw_163 : Cond.selects "TextForge$Bytes" ⟨"TextForge$Bytes", "addFourBytes", "(I)V"⟩ ⟨"TextForge$Bytes", "addFourBytes", "(I)V"⟩ ∈ gw := gw_of (tm_1 (List.mem_of_getElem? (i := 163) rfl)) rfl
theorem kw_164 : Cond.code ⟨"TextForge$Bytes", "addFourBytes", "(I)V"⟩ prog_4_method_5_code 2 none ∈ gw := gw_of (tm_1 (List.mem_of_getElem? (i := 164) rfl)) rfl
theorem kw_165 : Cond.methodLink "TextForge$Bytes" 23 ⟨"TextForge$Bytes", "add", "(I)V"⟩ ∈ gw := gw_of (tm_1 (List.mem_of_getElem? (i := 165) rfl)) rfl
theorem kw_166 : Cond.instanceMethod ⟨"TextForge$Bytes", "add", "(I)V"⟩ ∈ gw := gw_of (tm_1 (List.mem_of_getElem? (i := 166) rfl)) rfl
theorem kw_167 : Cond.selects "TextForge$Bytes" ⟨"TextForge$Bytes", "add", "(I)V"⟩ ⟨"TextForge$Bytes", "add", "(I)V"⟩ ∈ gw := gw_of (tm_1 (List.mem_of_getElem? (i := 167) rfl)) rfl
theorem kw_168 : Cond.code ⟨"TextForge$Bytes", "add", "(I)V"⟩ prog_4_method_4_code 2 none ∈ gw := gw_of (tm_1 (List.mem_of_getElem? (i := 168) rfl)) rfl
theorem kw_169 : Cond.methodLink "TextForgeLaw" 51 ⟨"TextForge", "end", "(I)Z"⟩ ∈ gw := gw_of (tm_1 (List.mem_of_getElem? (i := 169) rfl)) rfl
theorem kw_170 : Cond.instanceMethod ⟨"TextForge", "end", "(I)Z"⟩ ∈ gw := gw_of (tm_1 (List.mem_of_getElem? (i := 170) rfl)) rfl
theorem kw_171 : Cond.selects "TextForge" ⟨"TextForge", "end", "(I)Z"⟩ ⟨"TextForge", "end", "(I)Z"⟩ ∈ gw := gw_of (tm_1 (List.mem_of_getElem? (i := 171) rfl)) rfl
theorem kw_172 : Cond.code ⟨"TextForge", "end", "(I)Z"⟩ prog_1_method_3_code 2 (some .boolean) ∈ gw := gw_of (tm_1 (List.mem_of_getElem? (i := 172) rfl)) rfl
theorem kw_173 : Cond.methodLink "TextForge" 60 ⟨"TextForge$Bytes", "cut", "(I)V"⟩ ∈ gw := gw_of (tm_1 (List.mem_of_getElem? (i := 173) rfl)) rfl
theorem kw_174 : Cond.instanceMethod ⟨"TextForge$Bytes", "cut", "(I)V"⟩ ∈ gw := gw_of (tm_1 (List.mem_of_getElem? (i := 174) rfl)) rfl
theorem kw_175 : Cond.selects "TextForge$Bytes" ⟨"TextForge$Bytes", "cut", "(I)V"⟩ ⟨"TextForge$Bytes", "cut", "(I)V"⟩ ∈ gw := gw_of (tm_1 (List.mem_of_getElem? (i := 175) rfl)) rfl
theorem kw_176 : Cond.code ⟨"TextForge$Bytes", "cut", "(I)V"⟩ prog_4_method_9_code 2 none ∈ gw := gw_of (tm_1 (List.mem_of_getElem? (i := 176) rfl)) rfl
theorem kw_177 : Cond.methodLink "TextForgeLaw" 78 ⟨"TextForge", "clear", "()V"⟩ ∈ gw := gw_of (tm_1 (List.mem_of_getElem? (i := 177) rfl)) rfl
theorem kw_178 : Cond.instanceMethod ⟨"TextForge", "clear", "()V"⟩ ∈ gw := gw_of (tm_1 (List.mem_of_getElem? (i := 178) rfl)) rfl
theorem kw_179 : Cond.selects "TextForge" ⟨"TextForge", "clear", "()V"⟩ ⟨"TextForge", "clear", "()V"⟩ ∈ gw := gw_of (tm_1 (List.mem_of_getElem? (i := 179) rfl)) rfl
theorem kw_180 : Cond.code ⟨"TextForge", "clear", "()V"⟩ prog_1_method_8_code 1 none ∈ gw := gw_of (tm_1 (List.mem_of_getElem? (i := 180) rfl)) rfl
theorem kw_181 : Cond.methodLink "TextForge" 86 ⟨"TextForge$Arguments", "drop", "()V"⟩ ∈ gw := gw_of (tm_1 (List.mem_of_getElem? (i := 181) rfl)) rfl
theorem kw_182 : Cond.instanceMethod ⟨"TextForge$Arguments", "drop", "()V"⟩ ∈ gw := gw_of (tm_1 (List.mem_of_getElem? (i := 182) rfl)) rfl
theorem kw_183 : Cond.selects "TextForge$Arguments" ⟨"TextForge$Arguments", "drop", "()V"⟩ ⟨"TextForge$Arguments", "drop", "()V"⟩ ∈ gw := gw_of (tm_1 (List.mem_of_getElem? (i := 183) rfl)) rfl
theorem kw_184 : Cond.code ⟨"TextForge$Arguments", "drop", "()V"⟩ prog_3_method_7_code 1 none ∈ gw := gw_of (tm_1 (List.mem_of_getElem? (i := 184) rfl)) rfl
theorem kw_185 : Cond.methodLink "TextForgeLaw" 82 ⟨"TextForge", "format", "()I"⟩ ∈ gw := gw_of (tm_1 (List.mem_of_getElem? (i := 185) rfl)) rfl
theorem kw_186 : Cond.instanceMethod ⟨"TextForge", "format", "()I"⟩ ∈ gw := gw_of (tm_1 (List.mem_of_getElem? (i := 186) rfl)) rfl
theorem kw_187 : Cond.selects "TextForge" ⟨"TextForge", "format", "()I"⟩ ⟨"TextForge", "format", "()I"⟩ ∈ gw := gw_of (tm_1 (List.mem_of_getElem? (i := 187) rfl)) rfl
theorem kw_188 : Cond.code ⟨"TextForge", "format", "()I"⟩ prog_1_method_9_code 3 (some .int) ∈ gw := gw_of (tm_1 (List.mem_of_getElem? (i := 188) rfl)) rfl
theorem kw_189 : Cond.methodLink "TextForge" 89 ⟨"TextForge$Directive", "close", "()V"⟩ ∈ gw := gw_of (tm_1 (List.mem_of_getElem? (i := 189) rfl)) rfl
theorem kw_190 : Cond.instanceMethod ⟨"TextForge$Directive", "close", "()V"⟩ ∈ gw := gw_of (tm_1 (List.mem_of_getElem? (i := 190) rfl)) rfl
theorem kw_191 : Cond.selects "TextForge$Directive" ⟨"TextForge$Directive", "close", "()V"⟩ ⟨"TextForge$Directive", "close", "()V"⟩ ∈ gw := gw_of (tm_1 (List.mem_of_getElem? (i := 191) rfl)) rfl
theorem kw_192 : Cond.code ⟨"TextForge$Directive", "close", "()V"⟩ prog_6_method_4_code 1 none ∈ gw := gw_of (tm_1 (List.mem_of_getElem? (i := 192) rfl)) rfl
theorem kw_193 : Cond.methodLink "TextForge" 92 ⟨"TextForge$Bytes", "at", "(I)I"⟩ ∈ gw := gw_of (tm_1 (List.mem_of_getElem? (i := 193) rfl)) rfl
theorem kw_194 : Cond.instanceMethod ⟨"TextForge$Bytes", "at", "(I)I"⟩ ∈ gw := gw_of (tm_1 (List.mem_of_getElem? (i := 194) rfl)) rfl
theorem kw_195 : Cond.selects "TextForge$Bytes" ⟨"TextForge$Bytes", "at", "(I)I"⟩ ⟨"TextForge$Bytes", "at", "(I)I"⟩ ∈ gw := gw_of (tm_1 (List.mem_of_getElem? (i := 195) rfl)) rfl
theorem kw_196 : Cond.code ⟨"TextForge$Bytes", "at", "(I)I"⟩ prog_4_method_3_code 2 (some .int) ∈ gw := gw_of (tm_1 (List.mem_of_getElem? (i := 196) rfl)) rfl
theorem kw_197 : Cond.methodLink "TextForge" 96 ⟨"TextForge$Directive", "isOpen", "()Z"⟩ ∈ gw := gw_of (tm_1 (List.mem_of_getElem? (i := 197) rfl)) rfl
theorem kw_198 : Cond.instanceMethod ⟨"TextForge$Directive", "isOpen", "()Z"⟩ ∈ gw := gw_of (tm_1 (List.mem_of_getElem? (i := 198) rfl)) rfl
theorem kw_199 : Cond.selects "TextForge$Directive" ⟨"TextForge$Directive", "isOpen", "()Z"⟩ ⟨"TextForge$Directive", "isOpen", "()Z"⟩ ∈ gw := gw_of (tm_1 (List.mem_of_getElem? (i := 199) rfl)) rfl
theorem kw_200 : Cond.code ⟨"TextForge$Directive", "isOpen", "()Z"⟩ prog_6_method_2_code 1 (some .boolean) ∈ gw := gw_of (tm_1 (List.mem_of_getElem? (i := 200) rfl)) rfl
theorem kw_201 : Cond.methodLink "TextForge" 100 ⟨"TextForge$Directive", "take", "(I)V"⟩ ∈ gw := gw_of (tm_1 (List.mem_of_getElem? (i := 201) rfl)) rfl
theorem kw_202 : Cond.instanceMethod ⟨"TextForge$Directive", "take", "(I)V"⟩ ∈ gw := gw_of (tm_1 (List.mem_of_getElem? (i := 202) rfl)) rfl
theorem kw_203 : Cond.selects "TextForge$Directive" ⟨"TextForge$Directive", "take", "(I)V"⟩ ⟨"TextForge$Directive", "take", "(I)V"⟩ ∈ gw := gw_of (tm_1 (List.mem_of_getElem? (i := 203) rfl)) rfl
theorem kw_204 : Cond.code ⟨"TextForge$Directive", "take", "(I)V"⟩ prog_6_method_5_code 2 none ∈ gw := gw_of (tm_1 (List.mem_of_getElem? (i := 204) rfl)) rfl
theorem kw_205 : Cond.methodLink "TextForge" 103 ⟨"TextForge$Printer", "putBy", "(LTextForge$Directive;LTextForge$Arguments;LTextForge$Bytes;)V"⟩ ∈ gw := gw_of (tm_1 (List.mem_of_getElem? (i := 205) rfl)) rfl
theorem kw_206 : Cond.instanceMethod ⟨"TextForge$Printer", "putBy", "(LTextForge$Directive;LTextForge$Arguments;LTextForge$Bytes;)V"⟩ ∈ gw := gw_of (tm_1 (List.mem_of_getElem? (i := 206) rfl)) rfl
theorem kw_207 : Cond.selects "TextForge$Printer" ⟨"TextForge$Printer", "putBy", "(LTextForge$Directive;LTextForge$Arguments;LTextForge$Bytes;)V"⟩ ⟨"TextForge$Printer", "putBy", "(LTextForge$Directive;LTextForge$Arguments;LTextForge$Bytes;)V"⟩ ∈ gw := gw_of (tm_1 (List.mem_of_getElem? (i := 207) rfl)) rfl
theorem kw_208 : Cond.code ⟨"TextForge$Printer", "putBy", "(LTextForge$Directive;LTextForge$Arguments;LTextForge$Bytes;)V"⟩ prog_8_method_3_code 5 none ∈ gw := gw_of (tm_1 (List.mem_of_getElem? (i := 208) rfl)) rfl
theorem kw_209 : Cond.methodLink "TextForge$Printer" 59 ⟨"TextForge$Directive", "letter", "()I"⟩ ∈ gw := gw_of (tm_1 (List.mem_of_getElem? (i := 209) rfl)) rfl
theorem kw_210 : Cond.instanceMethod ⟨"TextForge$Directive", "letter", "()I"⟩ ∈ gw := gw_of (tm_1 (List.mem_of_getElem? (i := 210) rfl)) rfl
theorem kw_211 : Cond.selects "TextForge$Directive" ⟨"TextForge$Directive", "letter", "()I"⟩ ⟨"TextForge$Directive", "letter", "()I"⟩ ∈ gw := gw_of (tm_1 (List.mem_of_getElem? (i := 211) rfl)) rfl
theorem kw_212 : Cond.code ⟨"TextForge$Directive", "letter", "()I"⟩ prog_6_method_6_code 1 (some .int) ∈ gw := gw_of (tm_1 (List.mem_of_getElem? (i := 212) rfl)) rfl
theorem kw_213 : Cond.methodLink "TextForge$Printer" 64 ⟨"TextForge$Bytes", "add", "(I)V"⟩ ∈ gw := gw_of (tm_1 (List.mem_of_getElem? (i := 213) rfl)) rfl
theorem kw_214 : Cond.methodLink "TextForge$Printer" 22 ⟨"TextForge$Bytes", "length", "()I"⟩ ∈ gw := gw_of (tm_1 (List.mem_of_getElem? (i := 214) rfl)) rfl
theorem kw_215 : Cond.methodLink "TextForge$Printer" 68 ⟨"TextForge$Arguments", "next", "()LTextForge$Argument;"⟩ ∈ gw := gw_of (tm_1 (List.mem_of_getElem? (i := 215) rfl)) rfl
theorem kw_216 : Cond.instanceMethod ⟨"TextForge$Arguments", "next", "()LTextForge$Argument;"⟩ ∈ gw := gw_of (tm_1 (List.mem_of_getElem? (i := 216) rfl)) rfl
theorem kw_217 : Cond.selects "TextForge$Arguments" ⟨"TextForge$Arguments", "next", "()LTextForge$Argument;"⟩ ⟨"TextForge$Arguments", "next", "()LTextForge$Argument;"⟩ ∈ gw := gw_of (tm_1 (List.mem_of_getElem? (i := 217) rfl)) rfl
theorem kw_218 : Cond.code ⟨"TextForge$Arguments", "next", "()LTextForge$Argument;"⟩ prog_3_method_6_code 1 (some (.object "TextForge$Argument")) ∈ gw := gw_of (tm_1 (List.mem_of_getElem? (i := 218) rfl)) rfl
theorem kw_219 : Cond.methodLink "TextForge$Arguments" 22 ⟨"TextForge$Arguments", "at", "(I)LTextForge$Argument;"⟩ ∈ gw := gw_of (tm_1 (List.mem_of_getElem? (i := 219) rfl)) rfl
theorem kw_220 : Cond.instanceMethod ⟨"TextForge$Arguments", "at", "(I)LTextForge$Argument;"⟩ ∈ gw := gw_of (tm_1 (List.mem_of_getElem? (i := 220) rfl)) rfl
theorem kw_221 : Cond.selects "TextForge$Arguments" ⟨"TextForge$Arguments", "at", "(I)LTextForge$Argument;"⟩ ⟨"TextForge$Arguments", "at", "(I)LTextForge$Argument;"⟩ ∈ gw := gw_of (tm_1 (List.mem_of_getElem? (i := 221) rfl)) rfl
theorem kw_222 : Cond.code ⟨"TextForge$Arguments", "at", "(I)LTextForge$Argument;"⟩ prog_3_method_5_code 2 (some (.object "TextForge$Argument")) ∈ gw := gw_of (tm_1 (List.mem_of_getElem? (i := 222) rfl)) rfl
theorem kw_223 : Cond.methodLink "TextForge$Printer" 74 ⟨"TextForge$Printer", "putArgument", "(LTextForge$Directive;LTextForge$Argument;LTextForge$Bytes;)Z"⟩ ∈ gw := gw_of (tm_1 (List.mem_of_getElem? (i := 223) rfl)) rfl
theorem tw_224 : Cond.privateMethod ⟨"TextForge$Printer", "putArgument", "(LTextForge$Directive;LTextForge$Argument;LTextForge$Bytes;)Z"⟩ ∈ lw_tbl := List.mem_append_right _ (tm_1 (List.mem_of_getElem? (i := 224) rfl))
theorem kw_225 : Cond.instanceMethod ⟨"TextForge$Printer", "putArgument", "(LTextForge$Directive;LTextForge$Argument;LTextForge$Bytes;)Z"⟩ ∈ gw := gw_of (tm_1 (List.mem_of_getElem? (i := 225) rfl)) rfl
theorem kw_226 : Cond.code ⟨"TextForge$Printer", "putArgument", "(LTextForge$Directive;LTextForge$Argument;LTextForge$Bytes;)Z"⟩ prog_8_method_4_code 6 (some .boolean) ∈ gw := gw_of (tm_1 (List.mem_of_getElem? (i := 226) rfl)) rfl
theorem kw_227 : Cond.methodLink "TextForge$Printer" 90 ⟨"TextForge$Argument", "isTruth", "()Z"⟩ ∈ gw := gw_of (tm_1 (List.mem_of_getElem? (i := 227) rfl)) rfl
theorem kw_228 : Cond.instanceMethod ⟨"TextForge$Argument", "isTruth", "()Z"⟩ ∈ gw := gw_of (tm_1 (List.mem_of_getElem? (i := 228) rfl)) rfl
theorem kw_229 : Cond.selects "TextForge$Argument" ⟨"TextForge$Argument", "isTruth", "()Z"⟩ ⟨"TextForge$Argument", "isTruth", "()Z"⟩ ∈ gw := gw_of (tm_1 (List.mem_of_getElem? (i := 229) rfl)) rfl
theorem kw_230 : Cond.code ⟨"TextForge$Argument", "isTruth", "()Z"⟩ prog_2_method_3_code 1 (some .boolean) ∈ gw := gw_of (tm_1 (List.mem_of_getElem? (i := 230) rfl)) rfl
theorem kw_231 : Cond.methodLink "TextForge$Printer" 93 ⟨"TextForge$Printer", "putPlain", "(LTextForge$Argument;LTextForge$Bytes;)V"⟩ ∈ gw := gw_of (tm_1 (List.mem_of_getElem? (i := 231) rfl)) rfl
theorem kw_232 : Cond.instanceMethod ⟨"TextForge$Printer", "putPlain", "(LTextForge$Argument;LTextForge$Bytes;)V"⟩ ∈ gw := gw_of (tm_1 (List.mem_of_getElem? (i := 232) rfl)) rfl
theorem kw_233 : Cond.selects "TextForge$Printer" ⟨"TextForge$Printer", "putPlain", "(LTextForge$Argument;LTextForge$Bytes;)V"⟩ ⟨"TextForge$Printer", "putPlain", "(LTextForge$Argument;LTextForge$Bytes;)V"⟩ ∈ gw := gw_of (tm_1 (List.mem_of_getElem? (i := 233) rfl)) rfl
theorem kw_234 : Cond.code ⟨"TextForge$Printer", "putPlain", "(LTextForge$Argument;LTextForge$Bytes;)V"⟩ prog_8_method_2_code 4 none ∈ gw := gw_of (tm_1 (List.mem_of_getElem? (i := 234) rfl)) rfl
theorem kw_235 : Cond.methodLink "TextForge$Printer" 16 ⟨"TextForge$Argument", "content", "()LTextForge$Bytes;"⟩ ∈ gw := gw_of (tm_1 (List.mem_of_getElem? (i := 235) rfl)) rfl
theorem kw_236 : Cond.instanceMethod ⟨"TextForge$Argument", "content", "()LTextForge$Bytes;"⟩ ∈ gw := gw_of (tm_1 (List.mem_of_getElem? (i := 236) rfl)) rfl
theorem kw_237 : Cond.selects "TextForge$Argument" ⟨"TextForge$Argument", "content", "()LTextForge$Bytes;"⟩ ⟨"TextForge$Argument", "content", "()LTextForge$Bytes;"⟩ ∈ gw := gw_of (tm_1 (List.mem_of_getElem? (i := 237) rfl)) rfl
theorem kw_238 : Cond.code ⟨"TextForge$Argument", "content", "()LTextForge$Bytes;"⟩ prog_2_method_7_code 1 (some (.object "TextForge$Bytes")) ∈ gw := gw_of (tm_1 (List.mem_of_getElem? (i := 238) rfl)) rfl
theorem kw_239 : Cond.methodLink "TextForge$Printer" 28 ⟨"TextForge$Bytes", "addPart", "(LTextForge$Bytes;II)V"⟩ ∈ gw := gw_of (tm_1 (List.mem_of_getElem? (i := 239) rfl)) rfl
theorem kw_240 : Cond.instanceMethod ⟨"TextForge$Bytes", "addPart", "(LTextForge$Bytes;II)V"⟩ ∈ gw := gw_of (tm_2 (List.mem_of_getElem? (i := 0) rfl)) rfl
theorem kw_241 : Cond.selects "TextForge$Bytes" ⟨"TextForge$Bytes", "addPart", "(LTextForge$Bytes;II)V"⟩ ⟨"TextForge$Bytes", "addPart", "(LTextForge$Bytes;II)V"⟩ ∈ gw := gw_of (tm_2 (List.mem_of_getElem? (i := 1) rfl)) rfl
theorem kw_242 : Cond.code ⟨"TextForge$Bytes", "addPart", "(LTextForge$Bytes;II)V"⟩ prog_4_method_7_code 5 none ∈ gw := gw_of (tm_2 (List.mem_of_getElem? (i := 2) rfl)) rfl
theorem kw_243 : Cond.methodLink "TextForge$Bytes" 36 ⟨"TextForge$Bytes", "at", "(I)I"⟩ ∈ gw := gw_of (tm_2 (List.mem_of_getElem? (i := 3) rfl)) rfl
theorem kw_244 : Cond.methodLink "TextForge$Printer" 32 ⟨"TextForge$Argument", "isNumber", "()Z"⟩ ∈ gw := gw_of (tm_2 (List.mem_of_getElem? (i := 4) rfl)) rfl
theorem kw_245 : Cond.instanceMethod ⟨"TextForge$Argument", "isNumber", "()Z"⟩ ∈ gw := gw_of (tm_2 (List.mem_of_getElem? (i := 5) rfl)) rfl
theorem kw_246 : Cond.selects "TextForge$Argument" ⟨"TextForge$Argument", "isNumber", "()Z"⟩ ⟨"TextForge$Argument", "isNumber", "()Z"⟩ ∈ gw := gw_of (tm_2 (List.mem_of_getElem? (i := 6) rfl)) rfl
theorem kw_247 : Cond.code ⟨"TextForge$Argument", "isNumber", "()Z"⟩ prog_2_method_2_code 1 (some .boolean) ∈ gw := gw_of (tm_2 (List.mem_of_getElem? (i := 7) rfl)) rfl
theorem kw_248 : Cond.methodLink "TextForge$Printer" 36 ⟨"TextForge$Argument", "magnitude", "()J"⟩ ∈ gw := gw_of (tm_2 (List.mem_of_getElem? (i := 8) rfl)) rfl
theorem kw_249 : Cond.instanceMethod ⟨"TextForge$Argument", "magnitude", "()J"⟩ ∈ gw := gw_of (tm_2 (List.mem_of_getElem? (i := 9) rfl)) rfl
theorem kw_250 : Cond.selects "TextForge$Argument" ⟨"TextForge$Argument", "magnitude", "()J"⟩ ⟨"TextForge$Argument", "magnitude", "()J"⟩ ∈ gw := gw_of (tm_2 (List.mem_of_getElem? (i := 10) rfl)) rfl
theorem kw_251 : Cond.code ⟨"TextForge$Argument", "magnitude", "()J"⟩ prog_2_method_6_code 1 (some .long) ∈ gw := gw_of (tm_2 (List.mem_of_getElem? (i := 11) rfl)) rfl
theorem kw_252 : Cond.methodLink "TextForge$Argument" 21 ⟨"TextForge$Argument", "isBelowZero", "()Z"⟩ ∈ gw := gw_of (tm_2 (List.mem_of_getElem? (i := 12) rfl)) rfl
theorem kw_253 : Cond.instanceMethod ⟨"TextForge$Argument", "isBelowZero", "()Z"⟩ ∈ gw := gw_of (tm_2 (List.mem_of_getElem? (i := 13) rfl)) rfl
theorem kw_254 : Cond.selects "TextForge$Argument" ⟨"TextForge$Argument", "isBelowZero", "()Z"⟩ ⟨"TextForge$Argument", "isBelowZero", "()Z"⟩ ∈ gw := gw_of (tm_2 (List.mem_of_getElem? (i := 14) rfl)) rfl
theorem kw_255 : Cond.code ⟨"TextForge$Argument", "isBelowZero", "()Z"⟩ prog_2_method_4_code 1 (some .boolean) ∈ gw := gw_of (tm_2 (List.mem_of_getElem? (i := 15) rfl)) rfl
theorem kw_256 : Cond.methodLink "TextForge$Printer" 40 ⟨"TextForge$Numeral", "setDecimal", "(J)V"⟩ ∈ gw := gw_of (tm_2 (List.mem_of_getElem? (i := 16) rfl)) rfl
theorem kw_257 : Cond.instanceMethod ⟨"TextForge$Numeral", "setDecimal", "(J)V"⟩ ∈ gw := gw_of (tm_2 (List.mem_of_getElem? (i := 17) rfl)) rfl
theorem kw_258 : Cond.selects "TextForge$Numeral" ⟨"TextForge$Numeral", "setDecimal", "(J)V"⟩ ⟨"TextForge$Numeral", "setDecimal", "(J)V"⟩ ∈ gw := gw_of (tm_2 (List.mem_of_getElem? (i := 18) rfl)) rfl
theorem kw_259 : Cond.code ⟨"TextForge$Numeral", "setDecimal", "(J)V"⟩ prog_7_method_4_code 7 none ∈ gw := gw_of (tm_2 (List.mem_of_getElem? (i := 19) rfl)) rfl
theorem kw_260 : Cond.constantLong "TextForge$Numeral" 17 (5 : Int64) ∈ gw := gw_of (tm_2 (List.mem_of_getElem? (i := 20) rfl)) rfl
theorem kw_261 : Cond.constantLong "TextForge$Numeral" 19 (48 : Int64) ∈ gw := gw_of (tm_2 (List.mem_of_getElem? (i := 21) rfl)) rfl
theorem kw_262 : Cond.constantLong "TextForge$Numeral" 21 (10 : Int64) ∈ gw := gw_of (tm_2 (List.mem_of_getElem? (i := 22) rfl)) rfl
theorem kw_263 : Cond.methodLink "TextForge$Printer" 44 ⟨"TextForge$Argument", "isBelowZero", "()Z"⟩ ∈ gw := gw_of (tm_2 (List.mem_of_getElem? (i := 23) rfl)) rfl
theorem kw_264 : Cond.methodLink "TextForge$Printer" 47 ⟨"TextForge$Printer", "putNumeral", "(ZZILTextForge$Bytes;)V"⟩ ∈ gw := gw_of (tm_2 (List.mem_of_getElem? (i := 24) rfl)) rfl
theorem tw_265 : Cond.privateMethod ⟨"TextForge$Printer", "putNumeral", "(ZZILTextForge$Bytes;)V"⟩ ∈ lw_tbl := List.mem_append_right _ (tm_2 (List.mem_of_getElem? (i := 25) rfl))
theorem kw_266 : Cond.instanceMethod ⟨"TextForge$Printer", "putNumeral", "(ZZILTextForge$Bytes;)V"⟩ ∈ gw := gw_of (tm_2 (List.mem_of_getElem? (i := 26) rfl)) rfl
theorem kw_267 : Cond.code ⟨"TextForge$Printer", "putNumeral", "(ZZILTextForge$Bytes;)V"⟩ prog_8_method_9_code 6 none ∈ gw := gw_of (tm_2 (List.mem_of_getElem? (i := 27) rfl)) rfl
theorem kw_268 : Cond.methodLink "TextForge$Printer" 151 ⟨"TextForge$Numeral", "count", "()I"⟩ ∈ gw := gw_of (tm_2 (List.mem_of_getElem? (i := 28) rfl)) rfl
theorem kw_269 : Cond.instanceMethod ⟨"TextForge$Numeral", "count", "()I"⟩ ∈ gw := gw_of (tm_2 (List.mem_of_getElem? (i := 29) rfl)) rfl
theorem kw_270 : Cond.selects "TextForge$Numeral" ⟨"TextForge$Numeral", "count", "()I"⟩ ⟨"TextForge$Numeral", "count", "()I"⟩ ∈ gw := gw_of (tm_2 (List.mem_of_getElem? (i := 30) rfl)) rfl
theorem kw_271 : Cond.code ⟨"TextForge$Numeral", "count", "()I"⟩ prog_7_method_3_code 1 (some .int) ∈ gw := gw_of (tm_2 (List.mem_of_getElem? (i := 31) rfl)) rfl
theorem kw_272 : Cond.methodLink "TextForge$Printer" 154 ⟨"TextForge$Bytes", "addTimes", "(II)V"⟩ ∈ gw := gw_of (tm_2 (List.mem_of_getElem? (i := 32) rfl)) rfl
theorem kw_273 : Cond.instanceMethod ⟨"TextForge$Bytes", "addTimes", "(II)V"⟩ ∈ gw := gw_of (tm_2 (List.mem_of_getElem? (i := 33) rfl)) rfl
theorem kw_274 : Cond.selects "TextForge$Bytes" ⟨"TextForge$Bytes", "addTimes", "(II)V"⟩ ⟨"TextForge$Bytes", "addTimes", "(II)V"⟩ ∈ gw := gw_of (tm_2 (List.mem_of_getElem? (i := 34) rfl)) rfl
theorem kw_275 : Cond.code ⟨"TextForge$Bytes", "addTimes", "(II)V"⟩ prog_4_method_8_code 4 none ∈ gw := gw_of (tm_2 (List.mem_of_getElem? (i := 35) rfl)) rfl
theorem kw_276 : Cond.methodLink "TextForge$Printer" 158 ⟨"TextForge$Numeral", "putTo", "(LTextForge$Bytes;)V"⟩ ∈ gw := gw_of (tm_2 (List.mem_of_getElem? (i := 36) rfl)) rfl
theorem kw_277 : Cond.instanceMethod ⟨"TextForge$Numeral", "putTo", "(LTextForge$Bytes;)V"⟩ ∈ gw := gw_of (tm_2 (List.mem_of_getElem? (i := 37) rfl)) rfl
theorem kw_278 : Cond.selects "TextForge$Numeral" ⟨"TextForge$Numeral", "putTo", "(LTextForge$Bytes;)V"⟩ ⟨"TextForge$Numeral", "putTo", "(LTextForge$Bytes;)V"⟩ ∈ gw := gw_of (tm_2 (List.mem_of_getElem? (i := 38) rfl)) rfl
theorem kw_279 : Cond.code ⟨"TextForge$Numeral", "putTo", "(LTextForge$Bytes;)V"⟩ prog_7_method_6_code 3 none ∈ gw := gw_of (tm_2 (List.mem_of_getElem? (i := 39) rfl)) rfl
theorem kw_280 : Cond.methodLink "TextForge$Numeral" 27 ⟨"java/lang/Math", "min", "(II)I"⟩ ∈ gw := gw_of (tm_2 (List.mem_of_getElem? (i := 40) rfl)) rfl
theorem kw_281 : Cond.static ⟨"java/lang/Math", "min", "(II)I"⟩ ∈ gw := gw_of (tm_2 (List.mem_of_getElem? (i := 41) rfl)) rfl
theorem kw_282 : Cond.code ⟨"java/lang/Math", "min", "(II)I"⟩ prog_16_method_69_code 2 (some .int) ∈ gw := gw_of (tm_2 (List.mem_of_getElem? (i := 42) rfl)) rfl
theorem kw_283 : Cond.methodLink "TextForge$Numeral" 32 ⟨"TextForge$Bytes", "add", "(I)V"⟩ ∈ gw := gw_of (tm_2 (List.mem_of_getElem? (i := 43) rfl)) rfl
theorem kw_284 : Cond.methodLink "TextForge$Printer" 51 ⟨"TextForge$Argument", "word", "()Ljava/lang/String;"⟩ ∈ gw := gw_of (tm_2 (List.mem_of_getElem? (i := 44) rfl)) rfl
theorem kw_285 : Cond.instanceMethod ⟨"TextForge$Argument", "word", "()Ljava/lang/String;"⟩ ∈ gw := gw_of (tm_2 (List.mem_of_getElem? (i := 45) rfl)) rfl
theorem kw_286 : Cond.selects "TextForge$Argument" ⟨"TextForge$Argument", "word", "()Ljava/lang/String;"⟩ ⟨"TextForge$Argument", "word", "()Ljava/lang/String;"⟩ ∈ gw := gw_of (tm_2 (List.mem_of_getElem? (i := 46) rfl)) rfl
theorem kw_287 : Cond.code ⟨"TextForge$Argument", "word", "()Ljava/lang/String;"⟩ prog_2_method_8_code 1 (some (.object "java/lang/String")) ∈ gw := gw_of (tm_2 (List.mem_of_getElem? (i := 47) rfl)) rfl
theorem tw_288 : Cond.stringRef "TextForge$Argument" 25 "true" ∈ lw_tbl := List.mem_append_right _ (tm_2 (List.mem_of_getElem? (i := 48) rfl))
theorem tw_289 : Cond.stringRef "TextForge$Argument" 27 "false" ∈ lw_tbl := List.mem_append_right _ (tm_2 (List.mem_of_getElem? (i := 49) rfl))
theorem tw_290 : Cond.stringRef "TextForge$Argument" 29 "(ptr)" ∈ lw_tbl := List.mem_append_right _ (tm_2 (List.mem_of_getElem? (i := 50) rfl))
theorem tw_291 : Cond.stringRef "TextForge$Argument" 31 "(func)" ∈ lw_tbl := List.mem_append_right _ (tm_2 (List.mem_of_getElem? (i := 51) rfl))
theorem tw_292 : Cond.stringRef "TextForge$Argument" 33 "(slice)" ∈ lw_tbl := List.mem_append_right _ (tm_2 (List.mem_of_getElem? (i := 52) rfl))
theorem tw_293 : Cond.stringRef "TextForge$Argument" 35 "(map)" ∈ lw_tbl := List.mem_append_right _ (tm_2 (List.mem_of_getElem? (i := 53) rfl))
theorem tw_294 : Cond.stringRef "TextForge$Argument" 37 "(chan)" ∈ lw_tbl := List.mem_append_right _ (tm_2 (List.mem_of_getElem? (i := 54) rfl))
theorem tw_295 : Cond.stringRef "TextForge$Argument" 39 "(interface)" ∈ lw_tbl := List.mem_append_right _ (tm_2 (List.mem_of_getElem? (i := 55) rfl))
theorem tw_296 : Cond.stringRef "TextForge$Argument" 41 "(struct)" ∈ lw_tbl := List.mem_append_right _ (tm_2 (List.mem_of_getElem? (i := 56) rfl))
theorem tw_297 : Cond.stringRef "TextForge$Argument" 43 "(array)" ∈ lw_tbl := List.mem_append_right _ (tm_2 (List.mem_of_getElem? (i := 57) rfl))
theorem tw_298 : Cond.stringRef "TextForge$Argument" 45 "(gate)" ∈ lw_tbl := List.mem_append_right _ (tm_2 (List.mem_of_getElem? (i := 58) rfl))
theorem tw_299 : Cond.stringRef "TextForge$Argument" 47 "nil" ∈ lw_tbl := List.mem_append_right _ (tm_2 (List.mem_of_getElem? (i := 59) rfl))
theorem kw_300 : Cond.methodLink "TextForge$Printer" 55 ⟨"TextForge$Bytes", "addWord", "(Ljava/lang/String;)V"⟩ ∈ gw := gw_of (tm_2 (List.mem_of_getElem? (i := 60) rfl)) rfl
theorem kw_301 : Cond.instanceMethod ⟨"TextForge$Bytes", "addWord", "(Ljava/lang/String;)V"⟩ ∈ gw := gw_of (tm_2 (List.mem_of_getElem? (i := 61) rfl)) rfl
theorem kw_302 : Cond.selects "TextForge$Bytes" ⟨"TextForge$Bytes", "addWord", "(Ljava/lang/String;)V"⟩ ⟨"TextForge$Bytes", "addWord", "(Ljava/lang/String;)V"⟩ ∈ gw := gw_of (tm_2 (List.mem_of_getElem? (i := 62) rfl)) rfl
theorem kw_303 : Cond.code ⟨"TextForge$Bytes", "addWord", "(Ljava/lang/String;)V"⟩ prog_4_method_6_code 3 none ∈ gw := gw_of (tm_2 (List.mem_of_getElem? (i := 63) rfl)) rfl
theorem kw_304 : Cond.methodLink "TextForge$Bytes" 27 ⟨"java/lang/String", "length", "()I"⟩ ∈ gw := gw_of (tm_2 (List.mem_of_getElem? (i := 64) rfl)) rfl
theorem kw_305 : Cond.instanceMethod ⟨"java/lang/String", "length", "()I"⟩ ∈ gw := gw_of (tm_2 (List.mem_of_getElem? (i := 65) rfl)) rfl
theorem kw_306 : Cond.selects "java/lang/String" ⟨"java/lang/String", "length", "()I"⟩ ⟨"java/lang/String", "length", "()I"⟩ ∈ gw := gw_of (tm_2 (List.mem_of_getElem? (i := 66) rfl)) rfl
theorem kw_307 : Cond.code ⟨"java/lang/String", "length", "()I"⟩ prog_18_method_54_code 1 (some .int) ∈ gw := gw_of (tm_2 (List.mem_of_getElem? (i := 67) rfl)) rfl
theorem kw_308 : Cond.methodLink "java/lang/String" 335 ⟨"java/lang/String", "coder", "()B"⟩ ∈ gw := gw_of (tm_2 (List.mem_of_getElem? (i := 68) rfl)) rfl
theorem kw_309 : Cond.instanceMethod ⟨"java/lang/String", "coder", "()B"⟩ ∈ gw := gw_of (tm_2 (List.mem_of_getElem? (i := 69) rfl)) rfl
theorem kw_310 : Cond.selects "java/lang/String" ⟨"java/lang/String", "coder", "()B"⟩ ⟨"java/lang/String", "coder", "()B"⟩ ∈ gw := gw_of (tm_2 (List.mem_of_getElem? (i := 70) rfl)) rfl
theorem kw_311 : Cond.code ⟨"java/lang/String", "coder", "()B"⟩ prog_18_method_152_code 1 (some .byte) ∈ gw := gw_of (tm_2 (List.mem_of_getElem? (i := 71) rfl)) rfl
theorem kw_312 : Cond.fieldLink "java/lang/String" 38 "java/lang/String" "COMPACT_STRINGS" "Z" ∈ gw := gw_of (tm_2 (List.mem_of_getElem? (i := 72) rfl)) rfl
theorem tw_313 : Cond.laysStatic "java/lang/String" "COMPACT_STRINGS" "Z" ∈ lw_tbl := List.mem_append_right _ (tm_2 (List.mem_of_getElem? (i := 73) rfl))
theorem kw_314 : Cond.methodLink "TextForge$Bytes" 32 ⟨"java/lang/String", "charAt", "(I)C"⟩ ∈ gw := gw_of (tm_2 (List.mem_of_getElem? (i := 74) rfl)) rfl
theorem kw_315 : Cond.instanceMethod ⟨"java/lang/String", "charAt", "(I)C"⟩ ∈ gw := gw_of (tm_2 (List.mem_of_getElem? (i := 75) rfl)) rfl
theorem kw_316 : Cond.selects "java/lang/String" ⟨"java/lang/String", "charAt", "(I)C"⟩ ⟨"java/lang/String", "charAt", "(I)C"⟩ ∈ gw := gw_of (tm_2 (List.mem_of_getElem? (i := 76) rfl)) rfl
theorem kw_317 : Cond.code ⟨"java/lang/String", "charAt", "(I)C"⟩ prog_18_method_56_code 2 (some .char) ∈ gw := gw_of (tm_2 (List.mem_of_getElem? (i := 77) rfl)) rfl
theorem kw_318 : Cond.methodLink "java/lang/String" 492 ⟨"java/lang/String", "isLatin1", "()Z"⟩ ∈ gw := gw_of (tm_2 (List.mem_of_getElem? (i := 78) rfl)) rfl
theorem kw_319 : Cond.instanceMethod ⟨"java/lang/String", "isLatin1", "()Z"⟩ ∈ gw := gw_of (tm_2 (List.mem_of_getElem? (i := 79) rfl)) rfl
theorem kw_320 : Cond.selects "java/lang/String" ⟨"java/lang/String", "isLatin1", "()Z"⟩ ⟨"java/lang/String", "isLatin1", "()Z"⟩ ∈ gw := gw_of (tm_2 (List.mem_of_getElem? (i := 80) rfl)) rfl
theorem kw_321 : Cond.code ⟨"java/lang/String", "isLatin1", "()Z"⟩ prog_18_method_154_code 1 (some .boolean) ∈ gw := gw_of (tm_2 (List.mem_of_getElem? (i := 81) rfl)) rfl
theorem kw_322 : Cond.methodLink "java/lang/String" 495 ⟨"java/lang/StringLatin1", "charAt", "([BI)C"⟩ ∈ gw := gw_of (tm_2 (List.mem_of_getElem? (i := 82) rfl)) rfl
theorem kw_323 : Cond.static ⟨"java/lang/StringLatin1", "charAt", "([BI)C"⟩ ∈ gw := gw_of (tm_2 (List.mem_of_getElem? (i := 83) rfl)) rfl
theorem kw_324 : Cond.code ⟨"java/lang/StringLatin1", "charAt", "([BI)C"⟩ prog_19_method_2_code 2 (some .char) ∈ gw := gw_of (tm_2 (List.mem_of_getElem? (i := 84) rfl)) rfl
theorem kw_325 : Cond.methodLink "java/lang/StringLatin1" 9 ⟨"java/lang/String", "checkIndex", "(II)V"⟩ ∈ gw := gw_of (tm_2 (List.mem_of_getElem? (i := 85) rfl)) rfl
theorem kw_326 : Cond.static ⟨"java/lang/String", "checkIndex", "(II)V"⟩ ∈ gw := gw_of (tm_2 (List.mem_of_getElem? (i := 86) rfl)) rfl
theorem kw_327 : Cond.code ⟨"java/lang/String", "checkIndex", "(II)V"⟩ prog_18_method_155_code 2 none ∈ gw := gw_of (tm_2 (List.mem_of_getElem? (i := 87) rfl)) rfl
theorem kw_328 : Cond.fieldLink "java/lang/String" 1053 "jdk/internal/util/Preconditions" "SIOOBE_FORMATTER" "Ljava/util/function/BiFunction;" ∈ gw := gw_of (tm_2 (List.mem_of_getElem? (i := 88) rfl)) rfl
theorem tw_329 : Cond.laysStatic "jdk/internal/util/Preconditions" "SIOOBE_FORMATTER" "Ljava/util/function/BiFunction;" ∈ lw_tbl := List.mem_append_right _ (tm_2 (List.mem_of_getElem? (i := 89) rfl))
theorem kw_330 : Cond.methodLink "java/lang/String" 1059 ⟨"jdk/internal/util/Preconditions", "checkIndex", "(IILjava/util/function/BiFunction;)I"⟩ ∈ gw := gw_of (tm_2 (List.mem_of_getElem? (i := 90) rfl)) rfl
theorem kw_331 : Cond.static ⟨"jdk/internal/util/Preconditions", "checkIndex", "(IILjava/util/function/BiFunction;)I"⟩ ∈ gw := gw_of (tm_2 (List.mem_of_getElem? (i := 91) rfl)) rfl
theorem kw_332 : Cond.code ⟨"jdk/internal/util/Preconditions", "checkIndex", "(IILjava/util/function/BiFunction;)I"⟩ prog_23_method_11_code 3 (some .int) ∈ gw := gw_of (tm_2 (List.mem_of_getElem? (i := 92) rfl)) rfl
theorem kw_333 : Cond.methodLink "java/lang/String" 498 ⟨"java/lang/StringUTF16", "charAt", "([BI)C"⟩ ∈ gw := gw_of (tm_2 (List.mem_of_getElem? (i := 93) rfl)) rfl
theorem kw_334 : Cond.static ⟨"java/lang/StringUTF16", "charAt", "([BI)C"⟩ ∈ gw := gw_of (tm_2 (List.mem_of_getElem? (i := 94) rfl)) rfl
theorem kw_335 : Cond.code ⟨"java/lang/StringUTF16", "charAt", "([BI)C"⟩ prog_20_method_83_code 2 (some .char) ∈ gw := gw_of (tm_2 (List.mem_of_getElem? (i := 95) rfl)) rfl
theorem kw_336 : Cond.methodLink "java/lang/StringUTF16" 67 ⟨"java/lang/StringUTF16", "checkIndex", "(I[B)V"⟩ ∈ gw := gw_of (tm_2 (List.mem_of_getElem? (i := 96) rfl)) rfl
theorem kw_337 : Cond.static ⟨"java/lang/StringUTF16", "checkIndex", "(I[B)V"⟩ ∈ gw := gw_of (tm_2 (List.mem_of_getElem? (i := 97) rfl)) rfl
theorem kw_338 : Cond.code ⟨"java/lang/StringUTF16", "checkIndex", "(I[B)V"⟩ prog_20_method_91_code 2 none ∈ gw := gw_of (tm_2 (List.mem_of_getElem? (i := 98) rfl)) rfl
theorem kw_339 : Cond.methodLink "java/lang/StringUTF16" 48 ⟨"java/lang/StringUTF16", "length", "([B)I"⟩ ∈ gw := gw_of (tm_2 (List.mem_of_getElem? (i := 99) rfl)) rfl
theorem kw_340 : Cond.static ⟨"java/lang/StringUTF16", "length", "([B)I"⟩ ∈ gw := gw_of (tm_2 (List.mem_of_getElem? (i := 100) rfl)) rfl
theorem kw_341 : Cond.code ⟨"java/lang/StringUTF16", "length", "([B)I"⟩ prog_20_method_6_code 1 (some .int) ∈ gw := gw_of (tm_2 (List.mem_of_getElem? (i := 101) rfl)) rfl
theorem kw_342 : Cond.methodLink "java/lang/StringUTF16" 414 ⟨"java/lang/String", "checkIndex", "(II)V"⟩ ∈ gw := gw_of (tm_2 (List.mem_of_getElem? (i := 102) rfl)) rfl
theorem kw_343 : Cond.methodLink "java/lang/StringUTF16" 71 ⟨"java/lang/StringUTF16", "getChar", "([BI)C"⟩ ∈ gw := gw_of (tm_2 (List.mem_of_getElem? (i := 103) rfl)) rfl
theorem kw_344 : Cond.static ⟨"java/lang/StringUTF16", "getChar", "([BI)C"⟩ ∈ gw := gw_of (tm_2 (List.mem_of_getElem? (i := 104) rfl)) rfl
theorem kw_345 : Cond.code ⟨"java/lang/StringUTF16", "getChar", "([BI)C"⟩ prog_20_method_5_code 2 (some .char) ∈ gw := gw_of (tm_2 (List.mem_of_getElem? (i := 105) rfl)) rfl
theorem kw_346 : Cond.fieldLink "java/lang/StringUTF16" 44 "java/lang/StringUTF16" "$assertionsDisabled" "Z" ∈ gw := gw_of (tm_2 (List.mem_of_getElem? (i := 106) rfl)) rfl
theorem tw_347 : Cond.laysStatic "java/lang/StringUTF16" "$assertionsDisabled" "Z" ∈ lw_tbl := List.mem_append_right _ (tm_2 (List.mem_of_getElem? (i := 107) rfl))
theorem kw_348 : Cond.fieldLink "java/lang/StringUTF16" 59 "java/lang/StringUTF16" "HI_BYTE_SHIFT" "I" ∈ gw := gw_of (tm_2 (List.mem_of_getElem? (i := 108) rfl)) rfl
theorem tw_349 : Cond.laysStatic "java/lang/StringUTF16" "HI_BYTE_SHIFT" "I" ∈ lw_tbl := List.mem_append_right _ (tm_2 (List.mem_of_getElem? (i := 109) rfl))
theorem kw_350 : Cond.fieldLink "java/lang/StringUTF16" 63 "java/lang/StringUTF16" "LO_BYTE_SHIFT" "I" ∈ gw := gw_of (tm_2 (List.mem_of_getElem? (i := 110) rfl)) rfl
theorem tw_351 : Cond.laysStatic "java/lang/StringUTF16" "LO_BYTE_SHIFT" "I" ∈ lw_tbl := List.mem_append_right _ (tm_2 (List.mem_of_getElem? (i := 111) rfl))
theorem kw_352 : Cond.methodLink "TextForge$Printer" 97 ⟨"TextForge$Printer", "putText", "(ILTextForge$Bytes;LTextForge$Bytes;)Z"⟩ ∈ gw := gw_of (tm_2 (List.mem_of_getElem? (i := 112) rfl)) rfl
theorem kw_353 : Cond.static ⟨"TextForge$Printer", "putText", "(ILTextForge$Bytes;LTextForge$Bytes;)Z"⟩ ∈ gw := gw_of (tm_2 (List.mem_of_getElem? (i := 113) rfl)) rfl
theorem kw_354 : Cond.code ⟨"TextForge$Printer", "putText", "(ILTextForge$Bytes;LTextForge$Bytes;)Z"⟩ prog_8_method_5_code 3 (some .boolean) ∈ gw := gw_of (tm_2 (List.mem_of_getElem? (i := 114) rfl)) rfl
theorem kw_355 : Cond.methodLink "TextForge$Printer" 104 ⟨"TextForge$Quoting", "putText", "(LTextForge$Bytes;LTextForge$Bytes;)V"⟩ ∈ gw := gw_of (tm_2 (List.mem_of_getElem? (i := 115) rfl)) rfl
theorem kw_356 : Cond.static ⟨"TextForge$Quoting", "putText", "(LTextForge$Bytes;LTextForge$Bytes;)V"⟩ ∈ gw := gw_of (tm_2 (List.mem_of_getElem? (i := 116) rfl)) rfl
theorem kw_357 : Cond.code ⟨"TextForge$Quoting", "putText", "(LTextForge$Bytes;LTextForge$Bytes;)V"⟩ prog_9_method_2_code 4 none ∈ gw := gw_of (tm_2 (List.mem_of_getElem? (i := 117) rfl)) rfl
theorem kw_358 : Cond.methodLink "TextForge$Quoting" 7 ⟨"TextForge$Bytes", "add", "(I)V"⟩ ∈ gw := gw_of (tm_2 (List.mem_of_getElem? (i := 118) rfl)) rfl
theorem kw_359 : Cond.methodLink "TextForge$Quoting" 13 ⟨"TextForge$Bytes", "length", "()I"⟩ ∈ gw := gw_of (tm_2 (List.mem_of_getElem? (i := 119) rfl)) rfl
theorem kw_360 : Cond.methodLink "TextForge$Quoting" 17 ⟨"TextForge$Utf8", "codeAt", "(LTextForge$Bytes;I)I"⟩ ∈ gw := gw_of (tm_2 (List.mem_of_getElem? (i := 120) rfl)) rfl
theorem kw_361 : Cond.static ⟨"TextForge$Utf8", "codeAt", "(LTextForge$Bytes;I)I"⟩ ∈ gw := gw_of (tm_2 (List.mem_of_getElem? (i := 121) rfl)) rfl
theorem kw_362 : Cond.code ⟨"TextForge$Utf8", "codeAt", "(LTextForge$Bytes;I)I"⟩ prog_10_method_6_code 7 (some .int) ∈ gw := gw_of (tm_2 (List.mem_of_getElem? (i := 122) rfl)) rfl
theorem kw_363 : Cond.methodLink "TextForge$Utf8" 25 ⟨"TextForge$Bytes", "at", "(I)I"⟩ ∈ gw := gw_of (tm_2 (List.mem_of_getElem? (i := 123) rfl)) rfl
theorem kw_364 : Cond.methodLink "TextForge$Utf8" 13 ⟨"TextForge$Utf8", "isCode", "(J)Z"⟩ ∈ gw := gw_of (tm_2 (List.mem_of_getElem? (i := 124) rfl)) rfl
theorem kw_365 : Cond.static ⟨"TextForge$Utf8", "isCode", "(J)Z"⟩ ∈ gw := gw_of (tm_2 (List.mem_of_getElem? (i := 125) rfl)) rfl
theorem kw_366 : Cond.code ⟨"TextForge$Utf8", "isCode", "(J)Z"⟩ prog_10_method_2_code 2 (some .boolean) ∈ gw := gw_of (tm_2 (List.mem_of_getElem? (i := 126) rfl)) rfl
theorem kw_367 : Cond.constantLong "TextForge$Utf8" 7 (1114111 : Int64) ∈ gw := gw_of (tm_2 (List.mem_of_getElem? (i := 127) rfl)) rfl
theorem kw_368 : Cond.constantLong "TextForge$Utf8" 9 (55296 : Int64) ∈ gw := gw_of (tm_2 (List.mem_of_getElem? (i := 128) rfl)) rfl
theorem kw_369 : Cond.constantLong "TextForge$Utf8" 11 (57343 : Int64) ∈ gw := gw_of (tm_2 (List.mem_of_getElem? (i := 129) rfl)) rfl
theorem kw_370 : Cond.methodLink "TextForge$Utf8" 21 ⟨"TextForge$Utf8", "bytesOf", "(I)I"⟩ ∈ gw := gw_of (tm_2 (List.mem_of_getElem? (i := 130) rfl)) rfl
theorem kw_371 : Cond.static ⟨"TextForge$Utf8", "bytesOf", "(I)I"⟩ ∈ gw := gw_of (tm_2 (List.mem_of_getElem? (i := 131) rfl)) rfl
theorem kw_372 : Cond.code ⟨"TextForge$Utf8", "bytesOf", "(I)I"⟩ prog_10_method_4_code 1 (some .int) ∈ gw := gw_of (tm_2 (List.mem_of_getElem? (i := 132) rfl)) rfl
theorem kw_373 : Cond.constant "TextForge$Utf8" 20 (65536 : Int32) ∈ gw := gw_of (tm_2 (List.mem_of_getElem? (i := 133) rfl)) rfl
theorem kw_374 : Cond.methodLink "TextForge$Quoting" 23 ⟨"TextForge$Utf8", "bytesAt", "(I)I"⟩ ∈ gw := gw_of (tm_2 (List.mem_of_getElem? (i := 134) rfl)) rfl
theorem kw_375 : Cond.static ⟨"TextForge$Utf8", "bytesAt", "(I)I"⟩ ∈ gw := gw_of (tm_2 (List.mem_of_getElem? (i := 135) rfl)) rfl
theorem kw_376 : Cond.code ⟨"TextForge$Utf8", "bytesAt", "(I)I"⟩ prog_10_method_5_code 1 (some .int) ∈ gw := gw_of (tm_2 (List.mem_of_getElem? (i := 136) rfl)) rfl
theorem kw_377 : Cond.methodLink "TextForge$Quoting" 27 ⟨"TextForge$Bytes", "addPart", "(LTextForge$Bytes;II)V"⟩ ∈ gw := gw_of (tm_2 (List.mem_of_getElem? (i := 137) rfl)) rfl
theorem kw_378 : Cond.methodLink "TextForge$Quoting" 31 ⟨"TextForge$Bytes", "at", "(I)I"⟩ ∈ gw := gw_of (tm_2 (List.mem_of_getElem? (i := 138) rfl)) rfl
theorem kw_379 : Cond.methodLink "TextForge$Quoting" 34 ⟨"TextForge$Quoting", "putByte", "(IILTextForge$Bytes;)V"⟩ ∈ gw := gw_of (tm_2 (List.mem_of_getElem? (i := 139) rfl)) rfl
theorem kw_380 : Cond.static ⟨"TextForge$Quoting", "putByte", "(IILTextForge$Bytes;)V"⟩ ∈ gw := gw_of (tm_2 (List.mem_of_getElem? (i := 140) rfl)) rfl
theorem kw_381 : Cond.code ⟨"TextForge$Quoting", "putByte", "(IILTextForge$Bytes;)V"⟩ prog_9_method_4_code 4 none ∈ gw := gw_of (tm_2 (List.mem_of_getElem? (i := 141) rfl)) rfl
theorem tw_382 : Cond.stringRef "TextForge$Quoting" 50 "abtnvfr" ∈ lw_tbl := List.mem_append_right _ (tm_2 (List.mem_of_getElem? (i := 142) rfl))
theorem kw_383 : Cond.methodLink "TextForge$Quoting" 52 ⟨"java/lang/String", "length", "()I"⟩ ∈ gw := gw_of (tm_2 (List.mem_of_getElem? (i := 143) rfl)) rfl
theorem kw_384 : Cond.methodLink "TextForge$Quoting" 55 ⟨"java/lang/String", "charAt", "(I)C"⟩ ∈ gw := gw_of (tm_2 (List.mem_of_getElem? (i := 144) rfl)) rfl
theorem kw_385 : Cond.methodLink "TextForge$Quoting" 59 ⟨"TextForge$Numeral", "digit", "(II)I"⟩ ∈ gw := gw_of (tm_2 (List.mem_of_getElem? (i := 145) rfl)) rfl
theorem kw_386 : Cond.static ⟨"TextForge$Numeral", "digit", "(II)I"⟩ ∈ gw := gw_of (tm_2 (List.mem_of_getElem? (i := 146) rfl)) rfl
theorem kw_387 : Cond.code ⟨"TextForge$Numeral", "digit", "(II)I"⟩ prog_7_method_2_code 2 (some .int) ∈ gw := gw_of (tm_2 (List.mem_of_getElem? (i := 147) rfl)) rfl
theorem kw_388 : Cond.methodLink "TextForge$Quoting" 40 ⟨"java/lang/Math", "max", "(II)I"⟩ ∈ gw := gw_of (tm_2 (List.mem_of_getElem? (i := 148) rfl)) rfl
theorem kw_389 : Cond.methodLink "TextForge$Printer" 109 ⟨"TextForge$Printer", "putHex", "(LTextForge$Bytes;ILTextForge$Bytes;)V"⟩ ∈ gw := gw_of (tm_2 (List.mem_of_getElem? (i := 149) rfl)) rfl
theorem kw_390 : Cond.static ⟨"TextForge$Printer", "putHex", "(LTextForge$Bytes;ILTextForge$Bytes;)V"⟩ ∈ gw := gw_of (tm_2 (List.mem_of_getElem? (i := 150) rfl)) rfl
theorem kw_391 : Cond.code ⟨"TextForge$Printer", "putHex", "(LTextForge$Bytes;ILTextForge$Bytes;)V"⟩ prog_8_method_6_code 4 none ∈ gw := gw_of (tm_2 (List.mem_of_getElem? (i := 151) rfl)) rfl
theorem kw_392 : Cond.methodLink "TextForge$Printer" 113 ⟨"TextForge$Bytes", "at", "(I)I"⟩ ∈ gw := gw_of (tm_2 (List.mem_of_getElem? (i := 152) rfl)) rfl
theorem kw_393 : Cond.methodLink "TextForge$Printer" 117 ⟨"TextForge$Numeral", "digit", "(II)I"⟩ ∈ gw := gw_of (tm_2 (List.mem_of_getElem? (i := 153) rfl)) rfl
theorem kw_394 : Cond.methodLink "TextForge$Printer" 101 ⟨"TextForge$Printer", "putNumber", "(LTextForge$Directive;LTextForge$Argument;LTextForge$Bytes;)Z"⟩ ∈ gw := gw_of (tm_2 (List.mem_of_getElem? (i := 154) rfl)) rfl
theorem tw_395 : Cond.privateMethod ⟨"TextForge$Printer", "putNumber", "(LTextForge$Directive;LTextForge$Argument;LTextForge$Bytes;)Z"⟩ ∈ lw_tbl := List.mem_append_right _ (tm_2 (List.mem_of_getElem? (i := 155) rfl))
theorem kw_396 : Cond.instanceMethod ⟨"TextForge$Printer", "putNumber", "(LTextForge$Directive;LTextForge$Argument;LTextForge$Bytes;)Z"⟩ ∈ gw := gw_of (tm_2 (List.mem_of_getElem? (i := 156) rfl)) rfl
theorem kw_397 : Cond.code ⟨"TextForge$Printer", "putNumber", "(LTextForge$Directive;LTextForge$Argument;LTextForge$Bytes;)Z"⟩ prog_8_method_7_code 5 (some .boolean) ∈ gw := gw_of (tm_2 (List.mem_of_getElem? (i := 157) rfl)) rfl
theorem kw_398 : Cond.methodLink "TextForge$Printer" 121 ⟨"TextForge$Argument", "value", "()J"⟩ ∈ gw := gw_of (tm_2 (List.mem_of_getElem? (i := 158) rfl)) rfl
theorem kw_399 : Cond.instanceMethod ⟨"TextForge$Argument", "value", "()J"⟩ ∈ gw := gw_of (tm_2 (List.mem_of_getElem? (i := 159) rfl)) rfl
theorem kw_400 : Cond.selects "TextForge$Argument" ⟨"TextForge$Argument", "value", "()J"⟩ ⟨"TextForge$Argument", "value", "()J"⟩ ∈ gw := gw_of (tm_2 (List.mem_of_getElem? (i := 160) rfl)) rfl
theorem kw_401 : Cond.code ⟨"TextForge$Argument", "value", "()J"⟩ prog_2_method_5_code 1 (some .long) ∈ gw := gw_of (tm_2 (List.mem_of_getElem? (i := 161) rfl)) rfl
theorem kw_402 : Cond.methodLink "TextForge$Printer" 124 ⟨"TextForge$Utf8", "codeOf", "(J)I"⟩ ∈ gw := gw_of (tm_2 (List.mem_of_getElem? (i := 162) rfl)) rfl
theorem kw_403 : Cond.static ⟨"TextForge$Utf8", "codeOf", "(J)I"⟩ ∈ gw := gw_of (tm_2 (List.mem_of_getElem? (i := 163) rfl)) rfl
theorem kw_404 : Cond.code ⟨"TextForge$Utf8", "codeOf", "(J)I"⟩ prog_10_method_3_code 2 (some .int) ∈ gw := gw_of (tm_2 (List.mem_of_getElem? (i := 164) rfl)) rfl
theorem kw_405 : Cond.constant "TextForge$Utf8" 19 (65533 : Int32) ∈ gw := gw_of (tm_2 (List.mem_of_getElem? (i := 165) rfl)) rfl
theorem kw_406 : Cond.methodLink "TextForge$Printer" 130 ⟨"TextForge$Utf8", "put", "(ILTextForge$Bytes;)V"⟩ ∈ gw := gw_of (tm_2 (List.mem_of_getElem? (i := 166) rfl)) rfl
theorem kw_407 : Cond.static ⟨"TextForge$Utf8", "put", "(ILTextForge$Bytes;)V"⟩ ∈ gw := gw_of (tm_2 (List.mem_of_getElem? (i := 167) rfl)) rfl
theorem kw_408 : Cond.code ⟨"TextForge$Utf8", "put", "(ILTextForge$Bytes;)V"⟩ prog_10_method_7_code 4 none ∈ gw := gw_of (tm_2 (List.mem_of_getElem? (i := 168) rfl)) rfl
theorem kw_409 : Cond.methodLink "TextForge$Utf8" 30 ⟨"TextForge$Bytes", "add", "(I)V"⟩ ∈ gw := gw_of (tm_2 (List.mem_of_getElem? (i := 169) rfl)) rfl
theorem kw_410 : Cond.methodLink "TextForge$Printer" 134 ⟨"TextForge$Quoting", "putCode", "(ILTextForge$Bytes;)V"⟩ ∈ gw := gw_of (tm_2 (List.mem_of_getElem? (i := 170) rfl)) rfl
theorem kw_411 : Cond.static ⟨"TextForge$Quoting", "putCode", "(ILTextForge$Bytes;)V"⟩ ∈ gw := gw_of (tm_2 (List.mem_of_getElem? (i := 171) rfl)) rfl
theorem kw_412 : Cond.code ⟨"TextForge$Quoting", "putCode", "(ILTextForge$Bytes;)V"⟩ prog_9_method_3_code 2 none ∈ gw := gw_of (tm_2 (List.mem_of_getElem? (i := 172) rfl)) rfl
theorem kw_413 : Cond.methodLink "TextForge$Quoting" 46 ⟨"TextForge$Utf8", "put", "(ILTextForge$Bytes;)V"⟩ ∈ gw := gw_of (tm_2 (List.mem_of_getElem? (i := 173) rfl)) rfl
theorem kw_414 : Cond.methodLink "TextForge$Printer" 137 ⟨"TextForge$Printer", "setNumeral", "(IJ)Z"⟩ ∈ gw := gw_of (tm_2 (List.mem_of_getElem? (i := 174) rfl)) rfl
theorem tw_415 : Cond.privateMethod ⟨"TextForge$Printer", "setNumeral", "(IJ)Z"⟩ ∈ lw_tbl := List.mem_append_right _ (tm_2 (List.mem_of_getElem? (i := 175) rfl))
theorem kw_416 : Cond.instanceMethod ⟨"TextForge$Printer", "setNumeral", "(IJ)Z"⟩ ∈ gw := gw_of (tm_2 (List.mem_of_getElem? (i := 176) rfl)) rfl
theorem kw_417 : Cond.code ⟨"TextForge$Printer", "setNumeral", "(IJ)Z"⟩ prog_8_method_8_code 4 (some .boolean) ∈ gw := gw_of (tm_2 (List.mem_of_getElem? (i := 177) rfl)) rfl
theorem kw_418 : Cond.methodLink "TextForge$Printer" 147 ⟨"TextForge$Numeral", "setByBits", "(JII)V"⟩ ∈ gw := gw_of (tm_2 (List.mem_of_getElem? (i := 178) rfl)) rfl
theorem kw_419 : Cond.instanceMethod ⟨"TextForge$Numeral", "setByBits", "(JII)V"⟩ ∈ gw := gw_of (tm_2 (List.mem_of_getElem? (i := 179) rfl)) rfl
theorem kw_420 : Cond.selects "TextForge$Numeral" ⟨"TextForge$Numeral", "setByBits", "(JII)V"⟩ ⟨"TextForge$Numeral", "setByBits", "(JII)V"⟩ ∈ gw := gw_of (tm_2 (List.mem_of_getElem? (i := 180) rfl)) rfl
theorem kw_421 : Cond.code ⟨"TextForge$Numeral", "setByBits", "(JII)V"⟩ prog_7_method_5_code 7 none ∈ gw := gw_of (tm_2 (List.mem_of_getElem? (i := 181) rfl)) rfl
theorem kw_422 : Cond.methodLink "TextForge$Numeral" 23 ⟨"TextForge$Numeral", "digit", "(II)I"⟩ ∈ gw := gw_of (tm_2 (List.mem_of_getElem? (i := 182) rfl)) rfl
theorem kw_423 : Cond.methodLink "TextForge$Printer" 141 ⟨"TextForge$Directive", "hasPlus", "()Z"⟩ ∈ gw := gw_of (tm_2 (List.mem_of_getElem? (i := 183) rfl)) rfl
theorem kw_424 : Cond.instanceMethod ⟨"TextForge$Directive", "hasPlus", "()Z"⟩ ∈ gw := gw_of (tm_2 (List.mem_of_getElem? (i := 184) rfl)) rfl
theorem kw_425 : Cond.selects "TextForge$Directive" ⟨"TextForge$Directive", "hasPlus", "()Z"⟩ ⟨"TextForge$Directive", "hasPlus", "()Z"⟩ ∈ gw := gw_of (tm_2 (List.mem_of_getElem? (i := 185) rfl)) rfl
theorem kw_426 : Cond.code ⟨"TextForge$Directive", "hasPlus", "()Z"⟩ prog_6_method_9_code 1 (some .boolean) ∈ gw := gw_of (tm_2 (List.mem_of_getElem? (i := 186) rfl)) rfl
theorem kw_427 : Cond.methodLink "TextForge$Printer" 144 ⟨"TextForge$Directive", "widthByZeros", "()I"⟩ ∈ gw := gw_of (tm_2 (List.mem_of_getElem? (i := 187) rfl)) rfl
theorem kw_428 : Cond.instanceMethod ⟨"TextForge$Directive", "widthByZeros", "()I"⟩ ∈ gw := gw_of (tm_2 (List.mem_of_getElem? (i := 188) rfl)) rfl
theorem kw_429 : Cond.selects "TextForge$Directive" ⟨"TextForge$Directive", "widthByZeros", "()I"⟩ ⟨"TextForge$Directive", "widthByZeros", "()I"⟩ ∈ gw := gw_of (tm_2 (List.mem_of_getElem? (i := 189) rfl)) rfl
theorem kw_430 : Cond.code ⟨"TextForge$Directive", "widthByZeros", "()I"⟩ prog_6_method_10_code 1 (some .int) ∈ gw := gw_of (tm_2 (List.mem_of_getElem? (i := 190) rfl)) rfl
theorem kw_431 : Cond.methodLink "TextForge$Printer" 78 ⟨"TextForge$Directive", "width", "()I"⟩ ∈ gw := gw_of (tm_2 (List.mem_of_getElem? (i := 191) rfl)) rfl
theorem kw_432 : Cond.instanceMethod ⟨"TextForge$Directive", "width", "()I"⟩ ∈ gw := gw_of (tm_2 (List.mem_of_getElem? (i := 192) rfl)) rfl
theorem kw_433 : Cond.selects "TextForge$Directive" ⟨"TextForge$Directive", "width", "()I"⟩ ⟨"TextForge$Directive", "width", "()I"⟩ ∈ gw := gw_of (tm_2 (List.mem_of_getElem? (i := 193) rfl)) rfl
theorem kw_434 : Cond.code ⟨"TextForge$Directive", "width", "()I"⟩ prog_6_method_7_code 1 (some .int) ∈ gw := gw_of (tm_2 (List.mem_of_getElem? (i := 194) rfl)) rfl
theorem kw_435 : Cond.methodLink "TextForge$Printer" 81 ⟨"TextForge$Directive", "hasMinus", "()Z"⟩ ∈ gw := gw_of (tm_2 (List.mem_of_getElem? (i := 195) rfl)) rfl
theorem kw_436 : Cond.instanceMethod ⟨"TextForge$Directive", "hasMinus", "()Z"⟩ ∈ gw := gw_of (tm_2 (List.mem_of_getElem? (i := 196) rfl)) rfl
theorem kw_437 : Cond.selects "TextForge$Directive" ⟨"TextForge$Directive", "hasMinus", "()Z"⟩ ⟨"TextForge$Directive", "hasMinus", "()Z"⟩ ∈ gw := gw_of (tm_2 (List.mem_of_getElem? (i := 197) rfl)) rfl
theorem kw_438 : Cond.code ⟨"TextForge$Directive", "hasMinus", "()Z"⟩ prog_6_method_8_code 1 (some .boolean) ∈ gw := gw_of (tm_2 (List.mem_of_getElem? (i := 198) rfl)) rfl
theorem kw_439 : Cond.methodLink "TextForge$Printer" 84 ⟨"TextForge$Bytes", "pad", "(IIZ)V"⟩ ∈ gw := gw_of (tm_2 (List.mem_of_getElem? (i := 199) rfl)) rfl
theorem kw_440 : Cond.instanceMethod ⟨"TextForge$Bytes", "pad", "(IIZ)V"⟩ ∈ gw := gw_of (tm_2 (List.mem_of_getElem? (i := 200) rfl)) rfl
theorem kw_441 : Cond.selects "TextForge$Bytes" ⟨"TextForge$Bytes", "pad", "(IIZ)V"⟩ ⟨"TextForge$Bytes", "pad", "(IIZ)V"⟩ ∈ gw := gw_of (tm_2 (List.mem_of_getElem? (i := 201) rfl)) rfl
theorem kw_442 : Cond.code ⟨"TextForge$Bytes", "pad", "(IIZ)V"⟩ prog_4_method_11_code 6 none ∈ gw := gw_of (tm_2 (List.mem_of_getElem? (i := 202) rfl)) rfl
theorem kw_443 : Cond.methodLink "TextForge$Bytes" 46 ⟨"TextForge$Bytes", "addTimes", "(II)V"⟩ ∈ gw := gw_of (tm_2 (List.mem_of_getElem? (i := 203) rfl)) rfl
theorem tw_444 : Cond.stringRef "TextForge$Printer" 88 "%!" ∈ lw_tbl := List.mem_append_right _ (tm_2 (List.mem_of_getElem? (i := 204) rfl))
theorem kw_445 : Cond.methodLink "TextForge" 107 ⟨"TextForge$Directive", "open", "()V"⟩ ∈ gw := gw_of (tm_2 (List.mem_of_getElem? (i := 205) rfl)) rfl
theorem kw_446 : Cond.instanceMethod ⟨"TextForge$Directive", "open", "()V"⟩ ∈ gw := gw_of (tm_2 (List.mem_of_getElem? (i := 206) rfl)) rfl
theorem kw_447 : Cond.selects "TextForge$Directive" ⟨"TextForge$Directive", "open", "()V"⟩ ⟨"TextForge$Directive", "open", "()V"⟩ ∈ gw := gw_of (tm_2 (List.mem_of_getElem? (i := 207) rfl)) rfl
theorem kw_448 : Cond.code ⟨"TextForge$Directive", "open", "()V"⟩ prog_6_method_3_code 1 none ∈ gw := gw_of (tm_2 (List.mem_of_getElem? (i := 208) rfl)) rfl
theorem kw_449 : Cond.methodLink "TextForge" 110 ⟨"TextForge$Bytes", "add", "(I)V"⟩ ∈ gw := gw_of (tm_2 (List.mem_of_getElem? (i := 209) rfl)) rfl
theorem tw_450 : Cond.stringRef "TextForge" 112 "%!" ∈ lw_tbl := List.mem_append_right _ (tm_2 (List.mem_of_getElem? (i := 210) rfl))
theorem kw_451 : Cond.methodLink "TextForge" 114 ⟨"TextForge$Bytes", "addWord", "(Ljava/lang/String;)V"⟩ ∈ gw := gw_of (tm_2 (List.mem_of_getElem? (i := 211) rfl)) rfl
theorem kw_452 : Cond.methodLink "TextForge" 117 ⟨"TextForge", "keptOfResult", "()I"⟩ ∈ gw := gw_of (tm_2 (List.mem_of_getElem? (i := 212) rfl)) rfl
theorem tw_453 : Cond.privateMethod ⟨"TextForge", "keptOfResult", "()I"⟩ ∈ lw_tbl := List.mem_append_right _ (tm_2 (List.mem_of_getElem? (i := 213) rfl))
theorem kw_454 : Cond.instanceMethod ⟨"TextForge", "keptOfResult", "()I"⟩ ∈ gw := gw_of (tm_2 (List.mem_of_getElem? (i := 214) rfl)) rfl
theorem kw_455 : Cond.code ⟨"TextForge", "keptOfResult", "()I"⟩ prog_1_method_20_code 1 (some .int) ∈ gw := gw_of (tm_2 (List.mem_of_getElem? (i := 215) rfl)) rfl
theorem kw_456 : Cond.methodLink "TextForgeLaw" 86 ⟨"TextForge", "join", "(Z)I"⟩ ∈ gw := gw_of (tm_2 (List.mem_of_getElem? (i := 216) rfl)) rfl
theorem kw_457 : Cond.instanceMethod ⟨"TextForge", "join", "(Z)I"⟩ ∈ gw := gw_of (tm_2 (List.mem_of_getElem? (i := 217) rfl)) rfl
theorem kw_458 : Cond.selects "TextForge" ⟨"TextForge", "join", "(Z)I"⟩ ⟨"TextForge", "join", "(Z)I"⟩ ∈ gw := gw_of (tm_2 (List.mem_of_getElem? (i := 218) rfl)) rfl
theorem kw_459 : Cond.code ⟨"TextForge", "join", "(Z)I"⟩ prog_1_method_10_code 3 (some .int) ∈ gw := gw_of (tm_2 (List.mem_of_getElem? (i := 219) rfl)) rfl
theorem kw_460 : Cond.methodLink "TextForge" 120 ⟨"TextForge$Arguments", "count", "()I"⟩ ∈ gw := gw_of (tm_2 (List.mem_of_getElem? (i := 220) rfl)) rfl
theorem kw_461 : Cond.instanceMethod ⟨"TextForge$Arguments", "count", "()I"⟩ ∈ gw := gw_of (tm_2 (List.mem_of_getElem? (i := 221) rfl)) rfl
theorem kw_462 : Cond.selects "TextForge$Arguments" ⟨"TextForge$Arguments", "count", "()I"⟩ ⟨"TextForge$Arguments", "count", "()I"⟩ ∈ gw := gw_of (tm_2 (List.mem_of_getElem? (i := 222) rfl)) rfl
theorem kw_463 : Cond.code ⟨"TextForge$Arguments", "count", "()I"⟩ prog_3_method_2_code 1 (some .int) ∈ gw := gw_of (tm_2 (List.mem_of_getElem? (i := 223) rfl)) rfl
theorem kw_464 : Cond.methodLink "TextForge" 123 ⟨"TextForge$Arguments", "at", "(I)LTextForge$Argument;"⟩ ∈ gw := gw_of (tm_2 (List.mem_of_getElem? (i := 224) rfl)) rfl
theorem kw_465 : Cond.methodLink "TextForge" 126 ⟨"TextForge$Printer", "putPlain", "(LTextForge$Argument;LTextForge$Bytes;)V"⟩ ∈ gw := gw_of (tm_2 (List.mem_of_getElem? (i := 225) rfl)) rfl
theorem kw_466 : Cond.methodLink "TextForgeLaw" 90 ⟨"TextForge", "quote", "()I"⟩ ∈ gw := gw_of (tm_2 (List.mem_of_getElem? (i := 226) rfl)) rfl
theorem kw_467 : Cond.instanceMethod ⟨"TextForge", "quote", "()I"⟩ ∈ gw := gw_of (tm_2 (List.mem_of_getElem? (i := 227) rfl)) rfl
theorem kw_468 : Cond.selects "TextForge" ⟨"TextForge", "quote", "()I"⟩ ⟨"TextForge", "quote", "()I"⟩ ∈ gw := gw_of (tm_2 (List.mem_of_getElem? (i := 228) rfl)) rfl
theorem kw_469 : Cond.code ⟨"TextForge", "quote", "()I"⟩ prog_1_method_11_code 1 (some .int) ∈ gw := gw_of (tm_2 (List.mem_of_getElem? (i := 229) rfl)) rfl
theorem kw_470 : Cond.methodLink "TextForge" 130 ⟨"TextForge$Quoting", "putText", "(LTextForge$Bytes;LTextForge$Bytes;)V"⟩ ∈ gw := gw_of (tm_2 (List.mem_of_getElem? (i := 230) rfl)) rfl
theorem kw_471 : Cond.methodLink "TextForgeLaw" 97 ⟨"TextForge", "parsed", "()J"⟩ ∈ gw := gw_of (tm_2 (List.mem_of_getElem? (i := 231) rfl)) rfl
theorem kw_472 : Cond.instanceMethod ⟨"TextForge", "parsed", "()J"⟩ ∈ gw := gw_of (tm_2 (List.mem_of_getElem? (i := 232) rfl)) rfl
theorem kw_473 : Cond.selects "TextForge" ⟨"TextForge", "parsed", "()J"⟩ ⟨"TextForge", "parsed", "()J"⟩ ∈ gw := gw_of (tm_2 (List.mem_of_getElem? (i := 233) rfl)) rfl
theorem kw_474 : Cond.code ⟨"TextForge", "parsed", "()J"⟩ prog_1_method_13_code 1 (some .long) ∈ gw := gw_of (tm_2 (List.mem_of_getElem? (i := 234) rfl)) rfl
theorem kw_475 : Cond.methodLink "TextForgeLaw" 102 ⟨"TextForge", "encode", "(I)I"⟩ ∈ gw := gw_of (tm_2 (List.mem_of_getElem? (i := 235) rfl)) rfl
theorem kw_476 : Cond.instanceMethod ⟨"TextForge", "encode", "(I)I"⟩ ∈ gw := gw_of (tm_2 (List.mem_of_getElem? (i := 236) rfl)) rfl
theorem kw_477 : Cond.selects "TextForge" ⟨"TextForge", "encode", "(I)I"⟩ ⟨"TextForge", "encode", "(I)I"⟩ ∈ gw := gw_of (tm_2 (List.mem_of_getElem? (i := 237) rfl)) rfl
theorem kw_478 : Cond.code ⟨"TextForge", "encode", "(I)I"⟩ prog_1_method_14_code 2 (some .int) ∈ gw := gw_of (tm_2 (List.mem_of_getElem? (i := 238) rfl)) rfl
theorem kw_479 : Cond.methodLink "TextForge" 142 ⟨"TextForge$Utf8", "codeOf", "(J)I"⟩ ∈ gw := gw_of (tm_2 (List.mem_of_getElem? (i := 239) rfl)) rfl
theorem kw_480 : Cond.methodLink "TextForge" 148 ⟨"TextForge$Utf8", "put", "(ILTextForge$Bytes;)V"⟩ ∈ gw := gw_of (tm_3 (List.mem_of_getElem? (i := 0) rfl)) rfl
theorem kw_481 : Cond.methodLink "TextForgeLaw" 106 ⟨"TextForge", "decode", "()I"⟩ ∈ gw := gw_of (tm_3 (List.mem_of_getElem? (i := 1) rfl)) rfl
theorem kw_482 : Cond.instanceMethod ⟨"TextForge", "decode", "()I"⟩ ∈ gw := gw_of (tm_3 (List.mem_of_getElem? (i := 2) rfl)) rfl
theorem kw_483 : Cond.selects "TextForge" ⟨"TextForge", "decode", "()I"⟩ ⟨"TextForge", "decode", "()I"⟩ ∈ gw := gw_of (tm_3 (List.mem_of_getElem? (i := 3) rfl)) rfl
theorem kw_484 : Cond.code ⟨"TextForge", "decode", "()I"⟩ prog_1_method_15_code 1 (some .int) ∈ gw := gw_of (tm_3 (List.mem_of_getElem? (i := 4) rfl)) rfl
theorem kw_485 : Cond.methodLink "TextForge" 152 ⟨"TextForge$Codes", "take", "(LTextForge$Bytes;)V"⟩ ∈ gw := gw_of (tm_3 (List.mem_of_getElem? (i := 5) rfl)) rfl
theorem kw_486 : Cond.instanceMethod ⟨"TextForge$Codes", "take", "(LTextForge$Bytes;)V"⟩ ∈ gw := gw_of (tm_3 (List.mem_of_getElem? (i := 6) rfl)) rfl
theorem kw_487 : Cond.selects "TextForge$Codes" ⟨"TextForge$Codes", "take", "(LTextForge$Bytes;)V"⟩ ⟨"TextForge$Codes", "take", "(LTextForge$Bytes;)V"⟩ ∈ gw := gw_of (tm_3 (List.mem_of_getElem? (i := 7) rfl)) rfl
theorem kw_488 : Cond.code ⟨"TextForge$Codes", "take", "(LTextForge$Bytes;)V"⟩ prog_5_method_6_code 3 none ∈ gw := gw_of (tm_3 (List.mem_of_getElem? (i := 8) rfl)) rfl
theorem kw_489 : Cond.methodLink "TextForge$Codes" 33 ⟨"TextForge$Bytes", "length", "()I"⟩ ∈ gw := gw_of (tm_3 (List.mem_of_getElem? (i := 9) rfl)) rfl
theorem kw_490 : Cond.methodLink "TextForge$Codes" 39 ⟨"TextForge$Codes", "widenTo", "(I)V"⟩ ∈ gw := gw_of (tm_3 (List.mem_of_getElem? (i := 10) rfl)) rfl
theorem tw_491 : Cond.privateMethod ⟨"TextForge$Codes", "widenTo", "(I)V"⟩ ∈ lw_tbl := List.mem_append_right _ (tm_3 (List.mem_of_getElem? (i := 11) rfl))
theorem kw_492 : Cond.instanceMethod ⟨"TextForge$Codes", "widenTo", "(I)V"⟩ ∈ gw := gw_of (tm_3 (List.mem_of_getElem? (i := 12) rfl)) rfl
theorem kw_493 : Cond.code ⟨"TextForge$Codes", "widenTo", "(I)V"⟩ prog_5_method_8_code 2 none ∈ gw := gw_of (tm_3 (List.mem_of_getElem? (i := 13) rfl)) rfl
theorem kw_494 : Cond.methodLink "TextForge$Codes" 43 ⟨"TextForge$Utf8", "codeAt", "(LTextForge$Bytes;I)I"⟩ ∈ gw := gw_of (tm_3 (List.mem_of_getElem? (i := 14) rfl)) rfl
theorem kw_495 : Cond.methodLink "TextForge$Codes" 47 ⟨"TextForge$Codes", "bytesOf", "(I)I"⟩ ∈ gw := gw_of (tm_3 (List.mem_of_getElem? (i := 15) rfl)) rfl
theorem kw_496 : Cond.instanceMethod ⟨"TextForge$Codes", "bytesOf", "(I)I"⟩ ∈ gw := gw_of (tm_3 (List.mem_of_getElem? (i := 16) rfl)) rfl
theorem kw_497 : Cond.selects "TextForge$Codes" ⟨"TextForge$Codes", "bytesOf", "(I)I"⟩ ⟨"TextForge$Codes", "bytesOf", "(I)I"⟩ ∈ gw := gw_of (tm_3 (List.mem_of_getElem? (i := 17) rfl)) rfl
theorem kw_498 : Cond.code ⟨"TextForge$Codes", "bytesOf", "(I)I"⟩ prog_5_method_5_code 2 (some .int) ∈ gw := gw_of (tm_3 (List.mem_of_getElem? (i := 18) rfl)) rfl
theorem kw_499 : Cond.methodLink "TextForge$Codes" 20 ⟨"TextForge$Codes", "foundAt", "(I)I"⟩ ∈ gw := gw_of (tm_3 (List.mem_of_getElem? (i := 19) rfl)) rfl
theorem tw_500 : Cond.privateMethod ⟨"TextForge$Codes", "foundAt", "(I)I"⟩ ∈ lw_tbl := List.mem_append_right _ (tm_3 (List.mem_of_getElem? (i := 20) rfl))
theorem kw_501 : Cond.instanceMethod ⟨"TextForge$Codes", "foundAt", "(I)I"⟩ ∈ gw := gw_of (tm_3 (List.mem_of_getElem? (i := 21) rfl)) rfl
theorem kw_502 : Cond.code ⟨"TextForge$Codes", "foundAt", "(I)I"⟩ prog_5_method_7_code 2 (some .int) ∈ gw := gw_of (tm_3 (List.mem_of_getElem? (i := 22) rfl)) rfl
theorem kw_503 : Cond.methodLink "TextForge$Codes" 30 ⟨"TextForge$Utf8", "bytesAt", "(I)I"⟩ ∈ gw := gw_of (tm_3 (List.mem_of_getElem? (i := 23) rfl)) rfl
theorem kw_504 : Cond.methodLink "TextForge" 155 ⟨"TextForge$Codes", "count", "()I"⟩ ∈ gw := gw_of (tm_3 (List.mem_of_getElem? (i := 24) rfl)) rfl
theorem kw_505 : Cond.instanceMethod ⟨"TextForge$Codes", "count", "()I"⟩ ∈ gw := gw_of (tm_3 (List.mem_of_getElem? (i := 25) rfl)) rfl
theorem kw_506 : Cond.selects "TextForge$Codes" ⟨"TextForge$Codes", "count", "()I"⟩ ⟨"TextForge$Codes", "count", "()I"⟩ ∈ gw := gw_of (tm_3 (List.mem_of_getElem? (i := 26) rfl)) rfl
theorem kw_507 : Cond.code ⟨"TextForge$Codes", "count", "()I"⟩ prog_5_method_2_code 1 (some .int) ∈ gw := gw_of (tm_3 (List.mem_of_getElem? (i := 27) rfl)) rfl
theorem kw_508 : Cond.methodLink "TextForgeLaw" 114 ⟨"TextForge", "size", "()I"⟩ ∈ gw := gw_of (tm_3 (List.mem_of_getElem? (i := 28) rfl)) rfl
theorem kw_509 : Cond.instanceMethod ⟨"TextForge", "size", "()I"⟩ ∈ gw := gw_of (tm_3 (List.mem_of_getElem? (i := 29) rfl)) rfl
theorem kw_510 : Cond.selects "TextForge" ⟨"TextForge", "size", "()I"⟩ ⟨"TextForge", "size", "()I"⟩ ∈ gw := gw_of (tm_3 (List.mem_of_getElem? (i := 30) rfl)) rfl
theorem kw_511 : Cond.code ⟨"TextForge", "size", "()I"⟩ prog_1_method_17_code 1 (some .int) ∈ gw := gw_of (tm_3 (List.mem_of_getElem? (i := 31) rfl)) rfl
theorem kw_512 : Cond.methodLink "TextForgeLaw" 57 ⟨"TextForgeLaw", "number", "(LTextForge;JZ[J)I"⟩ ∈ gw := gw_of (tm_3 (List.mem_of_getElem? (i := 32) rfl)) rfl
theorem kw_513 : Cond.static ⟨"TextForgeLaw", "number", "(LTextForge;JZ[J)I"⟩ ∈ gw := gw_of (tm_3 (List.mem_of_getElem? (i := 33) rfl)) rfl
theorem tw_514 : Cond.codeWith ⟨"TextForgeLaw", "number", "(LTextForge;JZ[J)I"⟩ method_3_code 6 (some .int) [(0, 11, 14, 13)] ∈ lw_tbl := List.mem_append_right _ (tm_3 (List.mem_of_getElem? (i := 34) rfl))
theorem kw_515 : Cond.classLink "TextForgeLaw" 13 "java/lang/IllegalStateException" ∈ gw := gw_of (tm_3 (List.mem_of_getElem? (i := 35) rfl)) rfl
theorem kw_516 : Cond.methodLink "TextForgeLaw" 7 ⟨"TextForge", "number", "(JZ)I"⟩ ∈ gw := gw_of (tm_3 (List.mem_of_getElem? (i := 36) rfl)) rfl
theorem kw_517 : Cond.instanceMethod ⟨"TextForge", "number", "(JZ)I"⟩ ∈ gw := gw_of (tm_3 (List.mem_of_getElem? (i := 37) rfl)) rfl
theorem kw_518 : Cond.selects "TextForge" ⟨"TextForge", "number", "(JZ)I"⟩ ⟨"TextForge", "number", "(JZ)I"⟩ ∈ gw := gw_of (tm_3 (List.mem_of_getElem? (i := 38) rfl)) rfl
theorem kw_519 : Cond.code ⟨"TextForge", "number", "(JZ)I"⟩ prog_1_method_4_code 4 (some .int) ∈ gw := gw_of (tm_3 (List.mem_of_getElem? (i := 39) rfl)) rfl
theorem kw_520 : Cond.methodLink "TextForge" 63 ⟨"TextForge", "requireRoomForArgument", "()V"⟩ ∈ gw := gw_of (tm_3 (List.mem_of_getElem? (i := 40) rfl)) rfl
theorem tw_521 : Cond.privateMethod ⟨"TextForge", "requireRoomForArgument", "()V"⟩ ∈ lw_tbl := List.mem_append_right _ (tm_3 (List.mem_of_getElem? (i := 41) rfl))
theorem kw_522 : Cond.instanceMethod ⟨"TextForge", "requireRoomForArgument", "()V"⟩ ∈ gw := gw_of (tm_3 (List.mem_of_getElem? (i := 42) rfl)) rfl
theorem kw_523 : Cond.code ⟨"TextForge", "requireRoomForArgument", "()V"⟩ prog_1_method_19_code 1 none ∈ gw := gw_of (tm_3 (List.mem_of_getElem? (i := 43) rfl)) rfl
theorem kw_524 : Cond.methodLink "TextForge" 172 ⟨"TextForge$Arguments", "isFull", "()Z"⟩ ∈ gw := gw_of (tm_3 (List.mem_of_getElem? (i := 44) rfl)) rfl
theorem kw_525 : Cond.instanceMethod ⟨"TextForge$Arguments", "isFull", "()Z"⟩ ∈ gw := gw_of (tm_3 (List.mem_of_getElem? (i := 45) rfl)) rfl
theorem kw_526 : Cond.selects "TextForge$Arguments" ⟨"TextForge$Arguments", "isFull", "()Z"⟩ ⟨"TextForge$Arguments", "isFull", "()Z"⟩ ∈ gw := gw_of (tm_3 (List.mem_of_getElem? (i := 46) rfl)) rfl
theorem kw_527 : Cond.code ⟨"TextForge$Arguments", "isFull", "()Z"⟩ prog_3_method_3_code 1 (some .boolean) ∈ gw := gw_of (tm_3 (List.mem_of_getElem? (i := 47) rfl)) rfl
theorem kw_528 : Cond.classLink "TextForge" 175 "java/lang/IllegalStateException" ∈ gw := gw_of (tm_3 (List.mem_of_getElem? (i := 48) rfl)) rfl
theorem kw_529 : Cond.instantiable "java/lang/IllegalStateException" 6 ∈ gw := gw_of (tm_3 (List.mem_of_getElem? (i := 49) rfl)) rfl
theorem tw_530 : Cond.castable "java/lang/IllegalStateException" "java/lang/IllegalStateException" ∈ lw_tbl := List.mem_append_right _ (tm_3 (List.mem_of_getElem? (i := 50) rfl))
theorem tw_531 : Cond.declares ⟨"java/lang/RuntimeException", "<init>", "()V"⟩ ∈ lw_tbl := List.mem_append_right _ (tm_3 (List.mem_of_getElem? (i := 51) rfl))
theorem tw_532 : Cond.declares ⟨"java/lang/RuntimeException", "<init>", "(Ljava/lang/String;)V"⟩ ∈ lw_tbl := List.mem_append_right _ (tm_3 (List.mem_of_getElem? (i := 52) rfl))
theorem tw_533 : Cond.declares ⟨"java/lang/Exception", "<init>", "()V"⟩ ∈ lw_tbl := List.mem_append_right _ (tm_3 (List.mem_of_getElem? (i := 53) rfl))
theorem tw_534 : Cond.declares ⟨"java/lang/Exception", "<init>", "(Ljava/lang/String;)V"⟩ ∈ lw_tbl := List.mem_append_right _ (tm_3 (List.mem_of_getElem? (i := 54) rfl))
theorem tw_535 : Cond.declares ⟨"java/lang/Throwable", "<init>", "()V"⟩ ∈ lw_tbl := List.mem_append_right _ (tm_3 (List.mem_of_getElem? (i := 55) rfl))
theorem tw_536 : Cond.declares ⟨"java/lang/Throwable", "<init>", "(Ljava/lang/String;)V"⟩ ∈ lw_tbl := List.mem_append_right _ (tm_3 (List.mem_of_getElem? (i := 56) rfl))
theorem kw_537 : Cond.selects "java/lang/IllegalStateException" ⟨"java/lang/Throwable", "fillInStackTrace", "(I)Ljava/lang/Throwable;"⟩ ⟨"java/lang/Throwable", "fillInStackTrace", "(I)Ljava/lang/Throwable;"⟩ ∈ gw := gw_of (tm_3 (List.mem_of_getElem? (i := 57) rfl)) rfl
theorem kw_538 : Cond.selects "java/lang/IllegalStateException" ⟨"java/lang/Throwable", "fillInStackTrace", "()Ljava/lang/Throwable;"⟩ ⟨"java/lang/Throwable", "fillInStackTrace", "()Ljava/lang/Throwable;"⟩ ∈ gw := gw_of (tm_3 (List.mem_of_getElem? (i := 58) rfl)) rfl
theorem kw_539 : Cond.lays "java/lang/IllegalStateException" "java/lang/Throwable" "cause" "Ljava/lang/Throwable;" ∈ gw := gw_of (tm_3 (List.mem_of_getElem? (i := 59) rfl)) rfl
theorem kw_540 : Cond.lays "java/lang/Throwable" "java/lang/Throwable" "cause" "Ljava/lang/Throwable;" ∈ gw := gw_of (tm_3 (List.mem_of_getElem? (i := 60) rfl)) rfl
theorem kw_541 : Cond.lays "java/lang/IllegalStateException" "java/lang/Throwable" "stackTrace" "[Ljava/lang/StackTraceElement;" ∈ gw := gw_of (tm_3 (List.mem_of_getElem? (i := 61) rfl)) rfl
theorem kw_542 : Cond.lays "java/lang/Throwable" "java/lang/Throwable" "stackTrace" "[Ljava/lang/StackTraceElement;" ∈ gw := gw_of (tm_3 (List.mem_of_getElem? (i := 62) rfl)) rfl
theorem kw_543 : Cond.lays "java/lang/IllegalStateException" "java/lang/Throwable" "suppressedExceptions" "Ljava/util/List;" ∈ gw := gw_of (tm_3 (List.mem_of_getElem? (i := 63) rfl)) rfl
theorem kw_544 : Cond.lays "java/lang/Throwable" "java/lang/Throwable" "suppressedExceptions" "Ljava/util/List;" ∈ gw := gw_of (tm_3 (List.mem_of_getElem? (i := 64) rfl)) rfl
theorem kw_545 : Cond.lays "java/lang/IllegalStateException" "java/lang/Throwable" "detailMessage" "Ljava/lang/String;" ∈ gw := gw_of (tm_3 (List.mem_of_getElem? (i := 65) rfl)) rfl
theorem kw_546 : Cond.lays "java/lang/Throwable" "java/lang/Throwable" "detailMessage" "Ljava/lang/String;" ∈ gw := gw_of (tm_3 (List.mem_of_getElem? (i := 66) rfl)) rfl
theorem kw_547 : Cond.lays "java/lang/IllegalStateException" "java/lang/Throwable" "backtrace" "Ljava/lang/Object;" ∈ gw := gw_of (tm_3 (List.mem_of_getElem? (i := 67) rfl)) rfl
theorem kw_548 : Cond.lays "java/lang/Throwable" "java/lang/Throwable" "backtrace" "Ljava/lang/Object;" ∈ gw := gw_of (tm_3 (List.mem_of_getElem? (i := 68) rfl)) rfl
theorem kw_549 : Cond.fieldLink "java/lang/Throwable" 198 "java/lang/Throwable" "backtrace" "Ljava/lang/Object;" ∈ gw := gw_of (tm_3 (List.mem_of_getElem? (i := 69) rfl)) rfl
theorem tw_550 : Cond.superclass "java/lang/Throwable" "java/lang/Object" ∈ lw_tbl := List.mem_append_right _ (tm_3 (List.mem_of_getElem? (i := 70) rfl))
theorem kw_551 : Cond.instanceMethod ⟨"java/lang/Throwable", "<init>", "()V"⟩ ∈ gw := gw_of (tm_3 (List.mem_of_getElem? (i := 71) rfl)) rfl
theorem kw_552 : Cond.code ⟨"java/lang/Throwable", "<init>", "()V"⟩ prog_21_method_1_code 1 none ∈ gw := gw_of (tm_3 (List.mem_of_getElem? (i := 72) rfl)) rfl
theorem kw_553 : Cond.methodLink "java/lang/Throwable" 1 ⟨"java/lang/Object", "<init>", "()V"⟩ ∈ gw := gw_of (tm_3 (List.mem_of_getElem? (i := 73) rfl)) rfl
theorem kw_554 : Cond.fieldLink "java/lang/Throwable" 13 "java/lang/Throwable" "UNASSIGNED_STACK" "[Ljava/lang/StackTraceElement;" ∈ gw := gw_of (tm_3 (List.mem_of_getElem? (i := 74) rfl)) rfl
theorem tw_555 : Cond.laysStatic "java/lang/Throwable" "UNASSIGNED_STACK" "[Ljava/lang/StackTraceElement;" ∈ lw_tbl := List.mem_append_right _ (tm_3 (List.mem_of_getElem? (i := 75) rfl))
theorem kw_556 : Cond.fieldLink "java/lang/Throwable" 20 "java/lang/Throwable" "SUPPRESSED_SENTINEL" "Ljava/util/List;" ∈ gw := gw_of (tm_3 (List.mem_of_getElem? (i := 76) rfl)) rfl
theorem tw_557 : Cond.laysStatic "java/lang/Throwable" "SUPPRESSED_SENTINEL" "Ljava/util/List;" ∈ lw_tbl := List.mem_append_right _ (tm_3 (List.mem_of_getElem? (i := 77) rfl))
theorem kw_558 : Cond.methodLink "java/lang/Throwable" 27 ⟨"java/lang/Throwable", "fillInStackTrace", "()Ljava/lang/Throwable;"⟩ ∈ gw := gw_of (tm_3 (List.mem_of_getElem? (i := 78) rfl)) rfl
theorem kw_559 : Cond.instanceMethod ⟨"java/lang/Throwable", "fillInStackTrace", "()Ljava/lang/Throwable;"⟩ ∈ gw := gw_of (tm_3 (List.mem_of_getElem? (i := 79) rfl)) rfl
theorem tw_560 : Cond.sameMethod "java/lang/Throwable" "java/lang/Throwable" "fillInStackTrace" "()Ljava/lang/Throwable;" ∈ lw_tbl := List.mem_append_right _ (tm_3 (List.mem_of_getElem? (i := 80) rfl))
theorem kw_561 : Cond.selects "java/lang/IllegalArgumentException" ⟨"java/lang/Throwable", "fillInStackTrace", "()Ljava/lang/Throwable;"⟩ ⟨"java/lang/Throwable", "fillInStackTrace", "()Ljava/lang/Throwable;"⟩ ∈ gw := gw_of (tm_3 (List.mem_of_getElem? (i := 81) rfl)) rfl
theorem kw_562 : Cond.selects "java/util/NoSuchElementException" ⟨"java/lang/Throwable", "fillInStackTrace", "()Ljava/lang/Throwable;"⟩ ⟨"java/lang/Throwable", "fillInStackTrace", "()Ljava/lang/Throwable;"⟩ ∈ gw := gw_of (tm_3 (List.mem_of_getElem? (i := 82) rfl)) rfl
theorem tw_563 : Cond.codeSync ⟨"java/lang/Throwable", "fillInStackTrace", "()Ljava/lang/Throwable;"⟩ prog_21_method_18_code 1 (some (.object "java/lang/Throwable")) ∈ lw_tbl := List.mem_append_right _ (tm_3 (List.mem_of_getElem? (i := 83) rfl))
theorem kw_564 : Cond.methodLink "java/lang/Throwable" 202 ⟨"java/lang/Throwable", "fillInStackTrace", "(I)Ljava/lang/Throwable;"⟩ ∈ gw := gw_of (tm_3 (List.mem_of_getElem? (i := 84) rfl)) rfl
theorem tw_565 : Cond.privateMethod ⟨"java/lang/Throwable", "fillInStackTrace", "(I)Ljava/lang/Throwable;"⟩ ∈ lw_tbl := List.mem_append_right _ (tm_3 (List.mem_of_getElem? (i := 85) rfl))
theorem kw_566 : Cond.instanceMethod ⟨"java/lang/Throwable", "fillInStackTrace", "(I)Ljava/lang/Throwable;"⟩ ∈ gw := gw_of (tm_3 (List.mem_of_getElem? (i := 86) rfl)) rfl
theorem kw_567 : Cond.instantiable "java/lang/Throwable" 6 ∈ gw := gw_of (tm_3 (List.mem_of_getElem? (i := 87) rfl)) rfl
theorem tw_568 : Cond.native ⟨"java/lang/Throwable", "fillInStackTrace", "(I)Ljava/lang/Throwable;"⟩ ∈ lw_tbl := List.mem_append_right _ (tm_3 (List.mem_of_getElem? (i := 88) rfl))
theorem tw_569 : Cond.stringRef "TextForge" 177 "there are as many arguments as there may be" ∈ lw_tbl := List.mem_append_right _ (tm_3 (List.mem_of_getElem? (i := 89) rfl))
theorem kw_570 : Cond.methodLink "TextForge" 179 ⟨"java/lang/IllegalStateException", "<init>", "(Ljava/lang/String;)V"⟩ ∈ gw := gw_of (tm_3 (List.mem_of_getElem? (i := 90) rfl)) rfl
theorem kw_571 : Cond.instanceMethod ⟨"java/lang/IllegalStateException", "<init>", "(Ljava/lang/String;)V"⟩ ∈ gw := gw_of (tm_3 (List.mem_of_getElem? (i := 91) rfl)) rfl
theorem kw_572 : Cond.code ⟨"java/lang/IllegalStateException", "<init>", "(Ljava/lang/String;)V"⟩ prog_15_method_2_code 2 none ∈ gw := gw_of (tm_3 (List.mem_of_getElem? (i := 92) rfl)) rfl
theorem kw_573 : Cond.methodLink "java/lang/IllegalStateException" 7 ⟨"java/lang/RuntimeException", "<init>", "(Ljava/lang/String;)V"⟩ ∈ gw := gw_of (tm_3 (List.mem_of_getElem? (i := 93) rfl)) rfl
theorem kw_574 : Cond.instanceMethod ⟨"java/lang/RuntimeException", "<init>", "(Ljava/lang/String;)V"⟩ ∈ gw := gw_of (tm_3 (List.mem_of_getElem? (i := 94) rfl)) rfl
theorem kw_575 : Cond.code ⟨"java/lang/RuntimeException", "<init>", "(Ljava/lang/String;)V"⟩ prog_17_method_2_code 2 none ∈ gw := gw_of (tm_3 (List.mem_of_getElem? (i := 95) rfl)) rfl
theorem kw_576 : Cond.methodLink "java/lang/RuntimeException" 7 ⟨"java/lang/Exception", "<init>", "(Ljava/lang/String;)V"⟩ ∈ gw := gw_of (tm_3 (List.mem_of_getElem? (i := 96) rfl)) rfl
theorem kw_577 : Cond.instanceMethod ⟨"java/lang/Exception", "<init>", "(Ljava/lang/String;)V"⟩ ∈ gw := gw_of (tm_3 (List.mem_of_getElem? (i := 97) rfl)) rfl
theorem kw_578 : Cond.code ⟨"java/lang/Exception", "<init>", "(Ljava/lang/String;)V"⟩ prog_13_method_2_code 2 none ∈ gw := gw_of (tm_3 (List.mem_of_getElem? (i := 98) rfl)) rfl
theorem kw_579 : Cond.methodLink "java/lang/Exception" 7 ⟨"java/lang/Throwable", "<init>", "(Ljava/lang/String;)V"⟩ ∈ gw := gw_of (tm_3 (List.mem_of_getElem? (i := 99) rfl)) rfl
theorem kw_580 : Cond.instanceMethod ⟨"java/lang/Throwable", "<init>", "(Ljava/lang/String;)V"⟩ ∈ gw := gw_of (tm_3 (List.mem_of_getElem? (i := 100) rfl)) rfl
theorem kw_581 : Cond.code ⟨"java/lang/Throwable", "<init>", "(Ljava/lang/String;)V"⟩ prog_21_method_2_code 2 none ∈ gw := gw_of (tm_3 (List.mem_of_getElem? (i := 101) rfl)) rfl
theorem kw_583 : Cond.fieldLink "java/lang/Throwable" 31 "java/lang/Throwable" "detailMessage" "Ljava/lang/String;" ∈ gw := gw_of (tm_3 (List.mem_of_getElem? (i := 103) rfl)) rfl
theorem kw_584 : Cond.fieldLink "java/lang/Throwable" 7 "java/lang/Throwable" "cause" "Ljava/lang/Throwable;" ∈ gw := gw_of (tm_3 (List.mem_of_getElem? (i := 104) rfl)) rfl
theorem kw_585 : Cond.fieldLink "java/lang/Throwable" 17 "java/lang/Throwable" "stackTrace" "[Ljava/lang/StackTraceElement;" ∈ gw := gw_of (tm_3 (List.mem_of_getElem? (i := 105) rfl)) rfl
theorem kw_586 : Cond.fieldLink "java/lang/Throwable" 24 "java/lang/Throwable" "suppressedExceptions" "Ljava/util/List;" ∈ gw := gw_of (tm_3 (List.mem_of_getElem? (i := 106) rfl)) rfl
theorem kw_587 : Cond.soleField "java/lang/Throwable" "backtrace" ∈ gw := gw_of (tm_3 (List.mem_of_getElem? (i := 107) rfl)) rfl
theorem kw_588 : Cond.soleField "java/lang/Throwable" "detailMessage" ∈ gw := gw_of (tm_3 (List.mem_of_getElem? (i := 108) rfl)) rfl
theorem kw_589 : Cond.soleField "java/lang/Throwable" "cause" ∈ gw := gw_of (tm_3 (List.mem_of_getElem? (i := 109) rfl)) rfl
theorem kw_590 : Cond.soleField "java/lang/Throwable" "stackTrace" ∈ gw := gw_of (tm_3 (List.mem_of_getElem? (i := 110) rfl)) rfl
theorem kw_591 : Cond.lays "java/lang/IllegalStateException" "java/lang/Throwable" "depth" "I" ∈ gw := gw_of (tm_3 (List.mem_of_getElem? (i := 111) rfl)) rfl
theorem kw_592 : Cond.soleField "java/lang/Throwable" "depth" ∈ gw := gw_of (tm_3 (List.mem_of_getElem? (i := 112) rfl)) rfl
theorem kw_593 : Cond.soleField "java/lang/Throwable" "suppressedExceptions" ∈ gw := gw_of (tm_3 (List.mem_of_getElem? (i := 113) rfl)) rfl
theorem tw_594 : Cond.superclass "java/lang/IllegalStateException" "java/lang/RuntimeException" ∈ lw_tbl := List.mem_append_right _ (tm_3 (List.mem_of_getElem? (i := 114) rfl))
theorem kw_595 : Cond.classLink "TextForge" 66 "TextForge$Argument" ∈ gw := gw_of (tm_3 (List.mem_of_getElem? (i := 115) rfl)) rfl
theorem kw_596 : Cond.instantiable "TextForge$Argument" 3 ∈ gw := gw_of (tm_3 (List.mem_of_getElem? (i := 116) rfl)) rfl
theorem kw_597 : Cond.methodLink "TextForge" 68 ⟨"TextForge$Argument", "<init>", "(IJLTextForge$Bytes;)V"⟩ ∈ gw := gw_of (tm_3 (List.mem_of_getElem? (i := 117) rfl)) rfl
theorem kw_598 : Cond.instanceMethod ⟨"TextForge$Argument", "<init>", "(IJLTextForge$Bytes;)V"⟩ ∈ gw := gw_of (tm_3 (List.mem_of_getElem? (i := 118) rfl)) rfl
theorem kw_599 : Cond.code ⟨"TextForge$Argument", "<init>", "(IJLTextForge$Bytes;)V"⟩ prog_2_method_1_code 5 none ∈ gw := gw_of (tm_3 (List.mem_of_getElem? (i := 119) rfl)) rfl
theorem kw_600 : Cond.methodLink "TextForge$Argument" 1 ⟨"java/lang/Object", "<init>", "()V"⟩ ∈ gw := gw_of (tm_3 (List.mem_of_getElem? (i := 120) rfl)) rfl
theorem kw_601 : Cond.fieldLink "TextForge$Argument" 7 "TextForge$Argument" "kind" "I" ∈ gw := gw_of (tm_3 (List.mem_of_getElem? (i := 121) rfl)) rfl
theorem kw_602 : Cond.fieldLink "TextForge$Argument" 13 "TextForge$Argument" "value" "J" ∈ gw := gw_of (tm_3 (List.mem_of_getElem? (i := 122) rfl)) rfl
theorem kw_603 : Cond.fieldLink "TextForge$Argument" 17 "TextForge$Argument" "content" "LTextForge$Bytes;" ∈ gw := gw_of (tm_3 (List.mem_of_getElem? (i := 123) rfl)) rfl
theorem kw_604 : Cond.laysFinal "TextForge$Argument" "TextForge$Argument" "kind" "I" ∈ gw := gw_of (tm_3 (List.mem_of_getElem? (i := 124) rfl)) rfl
theorem kw_605 : Cond.soleField "TextForge$Argument" "kind" ∈ gw := gw_of (tm_3 (List.mem_of_getElem? (i := 125) rfl)) rfl
theorem kw_606 : Cond.laysFinal "TextForge$Argument" "TextForge$Argument" "value" "J" ∈ gw := gw_of (tm_3 (List.mem_of_getElem? (i := 126) rfl)) rfl
theorem kw_607 : Cond.soleField "TextForge$Argument" "value" ∈ gw := gw_of (tm_3 (List.mem_of_getElem? (i := 127) rfl)) rfl
theorem kw_608 : Cond.laysFinal "TextForge$Argument" "TextForge$Argument" "content" "LTextForge$Bytes;" ∈ gw := gw_of (tm_3 (List.mem_of_getElem? (i := 128) rfl)) rfl
theorem kw_609 : Cond.soleField "TextForge$Argument" "content" ∈ gw := gw_of (tm_3 (List.mem_of_getElem? (i := 129) rfl)) rfl
theorem tw_610 : Cond.superclass "TextForge$Argument" "java/lang/Object" ∈ lw_tbl := List.mem_append_right _ (tm_3 (List.mem_of_getElem? (i := 130) rfl))
theorem kw_611 : Cond.methodLink "TextForge" 71 ⟨"TextForge$Arguments", "add", "(LTextForge$Argument;)I"⟩ ∈ gw := gw_of (tm_3 (List.mem_of_getElem? (i := 131) rfl)) rfl
theorem kw_612 : Cond.instanceMethod ⟨"TextForge$Arguments", "add", "(LTextForge$Argument;)I"⟩ ∈ gw := gw_of (tm_3 (List.mem_of_getElem? (i := 132) rfl)) rfl
theorem kw_613 : Cond.selects "TextForge$Arguments" ⟨"TextForge$Arguments", "add", "(LTextForge$Argument;)I"⟩ ⟨"TextForge$Arguments", "add", "(LTextForge$Argument;)I"⟩ ∈ gw := gw_of (tm_3 (List.mem_of_getElem? (i := 133) rfl)) rfl
theorem kw_614 : Cond.code ⟨"TextForge$Arguments", "add", "(LTextForge$Argument;)I"⟩ prog_3_method_4_code 2 (some .int) ∈ gw := gw_of (tm_3 (List.mem_of_getElem? (i := 134) rfl)) rfl
theorem kw_615 : Cond.methodLink "TextForgeLaw" 66 ⟨"TextForgeLaw", "truth", "(LTextForge;Z[J)I"⟩ ∈ gw := gw_of (tm_3 (List.mem_of_getElem? (i := 135) rfl)) rfl
theorem kw_616 : Cond.static ⟨"TextForgeLaw", "truth", "(LTextForge;Z[J)I"⟩ ∈ gw := gw_of (tm_3 (List.mem_of_getElem? (i := 136) rfl)) rfl
theorem tw_617 : Cond.codeWith ⟨"TextForgeLaw", "truth", "(LTextForge;Z[J)I"⟩ method_4_code 4 (some .int) [(0, 9, 12, 13)] ∈ lw_tbl := List.mem_append_right _ (tm_3 (List.mem_of_getElem? (i := 137) rfl))
theorem kw_618 : Cond.methodLink "TextForgeLaw" 15 ⟨"TextForge", "truth", "(Z)I"⟩ ∈ gw := gw_of (tm_3 (List.mem_of_getElem? (i := 138) rfl)) rfl
theorem kw_619 : Cond.instanceMethod ⟨"TextForge", "truth", "(Z)I"⟩ ∈ gw := gw_of (tm_3 (List.mem_of_getElem? (i := 139) rfl)) rfl
theorem kw_620 : Cond.selects "TextForge" ⟨"TextForge", "truth", "(Z)I"⟩ ⟨"TextForge", "truth", "(Z)I"⟩ ∈ gw := gw_of (tm_3 (List.mem_of_getElem? (i := 140) rfl)) rfl
theorem kw_621 : Cond.code ⟨"TextForge", "truth", "(Z)I"⟩ prog_1_method_5_code 2 (some .int) ∈ gw := gw_of (tm_3 (List.mem_of_getElem? (i := 141) rfl)) rfl
theorem kw_622 : Cond.methodLink "TextForgeLaw" 70 ⟨"TextForgeLaw", "text", "(LTextForge;[J)I"⟩ ∈ gw := gw_of (tm_3 (List.mem_of_getElem? (i := 142) rfl)) rfl
theorem kw_623 : Cond.static ⟨"TextForgeLaw", "text", "(LTextForge;[J)I"⟩ ∈ gw := gw_of (tm_3 (List.mem_of_getElem? (i := 143) rfl)) rfl
theorem tw_624 : Cond.codeWith ⟨"TextForgeLaw", "text", "(LTextForge;[J)I"⟩ method_5_code 3 (some .int) [(0, 8, 11, 13)] ∈ lw_tbl := List.mem_append_right _ (tm_3 (List.mem_of_getElem? (i := 144) rfl))
theorem kw_625 : Cond.methodLink "TextForgeLaw" 19 ⟨"TextForge", "text", "()I"⟩ ∈ gw := gw_of (tm_3 (List.mem_of_getElem? (i := 145) rfl)) rfl
theorem kw_626 : Cond.instanceMethod ⟨"TextForge", "text", "()I"⟩ ∈ gw := gw_of (tm_3 (List.mem_of_getElem? (i := 146) rfl)) rfl
theorem kw_627 : Cond.selects "TextForge" ⟨"TextForge", "text", "()I"⟩ ⟨"TextForge", "text", "()I"⟩ ∈ gw := gw_of (tm_3 (List.mem_of_getElem? (i := 147) rfl)) rfl
theorem kw_628 : Cond.code ⟨"TextForge", "text", "()I"⟩ prog_1_method_6_code 2 (some .int) ∈ gw := gw_of (tm_3 (List.mem_of_getElem? (i := 148) rfl)) rfl
theorem kw_629 : Cond.methodLink "TextForge" 75 ⟨"TextForge$Bytes", "copy", "()LTextForge$Bytes;"⟩ ∈ gw := gw_of (tm_3 (List.mem_of_getElem? (i := 149) rfl)) rfl
theorem kw_630 : Cond.instanceMethod ⟨"TextForge$Bytes", "copy", "()LTextForge$Bytes;"⟩ ∈ gw := gw_of (tm_3 (List.mem_of_getElem? (i := 150) rfl)) rfl
theorem kw_631 : Cond.selects "TextForge$Bytes" ⟨"TextForge$Bytes", "copy", "()LTextForge$Bytes;"⟩ ⟨"TextForge$Bytes", "copy", "()LTextForge$Bytes;"⟩ ∈ gw := gw_of (tm_3 (List.mem_of_getElem? (i := 151) rfl)) rfl
theorem kw_632 : Cond.code ⟨"TextForge$Bytes", "copy", "()LTextForge$Bytes;"⟩ prog_4_method_10_code 2 (some (.object "TextForge$Bytes")) ∈ gw := gw_of (tm_3 (List.mem_of_getElem? (i := 152) rfl)) rfl
theorem kw_633 : Cond.classLink "TextForge$Bytes" 8 "TextForge$Bytes" ∈ gw := gw_of (tm_3 (List.mem_of_getElem? (i := 153) rfl)) rfl
theorem kw_634 : Cond.methodLink "TextForge$Bytes" 40 ⟨"TextForge$Bytes", "<init>", "(I)V"⟩ ∈ gw := gw_of (tm_3 (List.mem_of_getElem? (i := 154) rfl)) rfl
theorem kw_635 : Cond.methodLink "TextForge$Bytes" 42 ⟨"TextForge$Bytes", "addPart", "(LTextForge$Bytes;II)V"⟩ ∈ gw := gw_of (tm_3 (List.mem_of_getElem? (i := 155) rfl)) rfl
theorem kw_636 : Cond.methodLink "TextForgeLaw" 74 ⟨"TextForgeLaw", "thing", "(LTextForge;I[J)I"⟩ ∈ gw := gw_of (tm_3 (List.mem_of_getElem? (i := 156) rfl)) rfl
theorem kw_637 : Cond.static ⟨"TextForgeLaw", "thing", "(LTextForge;I[J)I"⟩ ∈ gw := gw_of (tm_3 (List.mem_of_getElem? (i := 157) rfl)) rfl
theorem tw_638 : Cond.codeWith ⟨"TextForgeLaw", "thing", "(LTextForge;I[J)I"⟩ method_6_code 4 (some .int) [(0, 9, 12, 27), (0, 9, 15, 13)] ∈ lw_tbl := List.mem_append_right _ (tm_3 (List.mem_of_getElem? (i := 158) rfl))
theorem kw_639 : Cond.classLink "TextForgeLaw" 27 "java/lang/IllegalArgumentException" ∈ gw := gw_of (tm_3 (List.mem_of_getElem? (i := 159) rfl)) rfl
theorem kw_640 : Cond.methodLink "TextForgeLaw" 23 ⟨"TextForge", "thing", "(I)I"⟩ ∈ gw := gw_of (tm_3 (List.mem_of_getElem? (i := 160) rfl)) rfl
theorem kw_641 : Cond.instanceMethod ⟨"TextForge", "thing", "(I)I"⟩ ∈ gw := gw_of (tm_3 (List.mem_of_getElem? (i := 161) rfl)) rfl
theorem kw_642 : Cond.selects "TextForge" ⟨"TextForge", "thing", "(I)I"⟩ ⟨"TextForge", "thing", "(I)I"⟩ ∈ gw := gw_of (tm_3 (List.mem_of_getElem? (i := 162) rfl)) rfl
theorem kw_643 : Cond.code ⟨"TextForge", "thing", "(I)I"⟩ prog_1_method_7_code 2 (some .int) ∈ gw := gw_of (tm_3 (List.mem_of_getElem? (i := 163) rfl)) rfl
theorem kw_644 : Cond.classLink "TextForge" 79 "java/lang/IllegalArgumentException" ∈ gw := gw_of (tm_3 (List.mem_of_getElem? (i := 164) rfl)) rfl
theorem kw_645 : Cond.instantiable "java/lang/IllegalArgumentException" 6 ∈ gw := gw_of (tm_3 (List.mem_of_getElem? (i := 165) rfl)) rfl
theorem tw_646 : Cond.castable "java/lang/IllegalArgumentException" "java/lang/IllegalArgumentException" ∈ lw_tbl := List.mem_append_right _ (tm_3 (List.mem_of_getElem? (i := 166) rfl))
theorem kw_647 : Cond.selects "java/lang/IllegalArgumentException" ⟨"java/lang/Throwable", "fillInStackTrace", "(I)Ljava/lang/Throwable;"⟩ ⟨"java/lang/Throwable", "fillInStackTrace", "(I)Ljava/lang/Throwable;"⟩ ∈ gw := gw_of (tm_3 (List.mem_of_getElem? (i := 167) rfl)) rfl
theorem kw_648 : Cond.lays "java/lang/IllegalArgumentException" "java/lang/Throwable" "cause" "Ljava/lang/Throwable;" ∈ gw := gw_of (tm_3 (List.mem_of_getElem? (i := 168) rfl)) rfl
theorem kw_649 : Cond.lays "java/lang/IllegalArgumentException" "java/lang/Throwable" "stackTrace" "[Ljava/lang/StackTraceElement;" ∈ gw := gw_of (tm_3 (List.mem_of_getElem? (i := 169) rfl)) rfl
theorem kw_650 : Cond.lays "java/lang/IllegalArgumentException" "java/lang/Throwable" "suppressedExceptions" "Ljava/util/List;" ∈ gw := gw_of (tm_3 (List.mem_of_getElem? (i := 170) rfl)) rfl
theorem kw_651 : Cond.lays "java/lang/IllegalArgumentException" "java/lang/Throwable" "detailMessage" "Ljava/lang/String;" ∈ gw := gw_of (tm_3 (List.mem_of_getElem? (i := 171) rfl)) rfl
theorem kw_652 : Cond.lays "java/lang/IllegalArgumentException" "java/lang/Throwable" "backtrace" "Ljava/lang/Object;" ∈ gw := gw_of (tm_3 (List.mem_of_getElem? (i := 172) rfl)) rfl
theorem tw_653 : Cond.stringRef "TextForge" 81 "no such sort" ∈ lw_tbl := List.mem_append_right _ (tm_3 (List.mem_of_getElem? (i := 173) rfl))
theorem kw_654 : Cond.methodLink "TextForge" 83 ⟨"java/lang/IllegalArgumentException", "<init>", "(Ljava/lang/String;)V"⟩ ∈ gw := gw_of (tm_3 (List.mem_of_getElem? (i := 174) rfl)) rfl
theorem kw_655 : Cond.instanceMethod ⟨"java/lang/IllegalArgumentException", "<init>", "(Ljava/lang/String;)V"⟩ ∈ gw := gw_of (tm_3 (List.mem_of_getElem? (i := 175) rfl)) rfl
theorem kw_656 : Cond.code ⟨"java/lang/IllegalArgumentException", "<init>", "(Ljava/lang/String;)V"⟩ prog_14_method_2_code 2 none ∈ gw := gw_of (tm_3 (List.mem_of_getElem? (i := 176) rfl)) rfl
theorem kw_657 : Cond.methodLink "java/lang/IllegalArgumentException" 7 ⟨"java/lang/RuntimeException", "<init>", "(Ljava/lang/String;)V"⟩ ∈ gw := gw_of (tm_3 (List.mem_of_getElem? (i := 177) rfl)) rfl
theorem kw_658 : Cond.lays "java/lang/IllegalArgumentException" "java/lang/Throwable" "depth" "I" ∈ gw := gw_of (tm_3 (List.mem_of_getElem? (i := 178) rfl)) rfl
theorem tw_659 : Cond.superclass "java/lang/IllegalArgumentException" "java/lang/RuntimeException" ∈ lw_tbl := List.mem_append_right _ (tm_3 (List.mem_of_getElem? (i := 179) rfl))
theorem kw_660 : Cond.methodLink "TextForgeLaw" 94 ⟨"TextForgeLaw", "parse", "(LTextForge;I[J)I"⟩ ∈ gw := gw_of (tm_3 (List.mem_of_getElem? (i := 180) rfl)) rfl
theorem kw_661 : Cond.static ⟨"TextForgeLaw", "parse", "(LTextForge;I[J)I"⟩ ∈ gw := gw_of (tm_3 (List.mem_of_getElem? (i := 181) rfl)) rfl
theorem tw_662 : Cond.codeWith ⟨"TextForgeLaw", "parse", "(LTextForge;I[J)I"⟩ method_7_code 4 (some .int) [(0, 16, 19, 27)] ∈ lw_tbl := List.mem_append_right _ (tm_3 (List.mem_of_getElem? (i := 182) rfl))
theorem kw_663 : Cond.methodLink "TextForgeLaw" 29 ⟨"TextForge", "parse", "(I)Z"⟩ ∈ gw := gw_of (tm_3 (List.mem_of_getElem? (i := 183) rfl)) rfl
theorem kw_664 : Cond.instanceMethod ⟨"TextForge", "parse", "(I)Z"⟩ ∈ gw := gw_of (tm_3 (List.mem_of_getElem? (i := 184) rfl)) rfl
theorem kw_665 : Cond.selects "TextForge" ⟨"TextForge", "parse", "(I)Z"⟩ ⟨"TextForge", "parse", "(I)Z"⟩ ∈ gw := gw_of (tm_3 (List.mem_of_getElem? (i := 185) rfl)) rfl
theorem kw_666 : Cond.code ⟨"TextForge", "parse", "(I)Z"⟩ prog_1_method_12_code 3 (some .boolean) ∈ gw := gw_of (tm_3 (List.mem_of_getElem? (i := 186) rfl)) rfl
theorem tw_667 : Cond.stringRef "TextForge" 136 "no such base" ∈ lw_tbl := List.mem_append_right _ (tm_3 (List.mem_of_getElem? (i := 187) rfl))
theorem kw_668 : Cond.methodLink "TextForge" 138 ⟨"TextForge", "readNumber", "(I)Z"⟩ ∈ gw := gw_of (tm_3 (List.mem_of_getElem? (i := 188) rfl)) rfl
theorem tw_669 : Cond.privateMethod ⟨"TextForge", "readNumber", "(I)Z"⟩ ∈ lw_tbl := List.mem_append_right _ (tm_3 (List.mem_of_getElem? (i := 189) rfl))
theorem kw_670 : Cond.instanceMethod ⟨"TextForge", "readNumber", "(I)Z"⟩ ∈ gw := gw_of (tm_3 (List.mem_of_getElem? (i := 190) rfl)) rfl
theorem kw_671 : Cond.code ⟨"TextForge", "readNumber", "(I)Z"⟩ prog_1_method_21_code 12 (some .boolean) ∈ gw := gw_of (tm_3 (List.mem_of_getElem? (i := 191) rfl)) rfl
theorem kw_672 : Cond.constantLong "TextForge" 182 (-9223372036854775808 : Int64) ∈ gw := gw_of (tm_3 (List.mem_of_getElem? (i := 192) rfl)) rfl
theorem kw_673 : Cond.constantLong "TextForge" 184 (-9223372036854775807 : Int64) ∈ gw := gw_of (tm_3 (List.mem_of_getElem? (i := 193) rfl)) rfl
theorem kw_674 : Cond.methodLink "TextForge" 186 ⟨"TextForge", "digitOf", "(I)I"⟩ ∈ gw := gw_of (tm_3 (List.mem_of_getElem? (i := 194) rfl)) rfl
theorem kw_675 : Cond.static ⟨"TextForge", "digitOf", "(I)I"⟩ ∈ gw := gw_of (tm_3 (List.mem_of_getElem? (i := 195) rfl)) rfl
theorem kw_676 : Cond.code ⟨"TextForge", "digitOf", "(I)I"⟩ prog_1_method_22_code 1 (some .int) ∈ gw := gw_of (tm_3 (List.mem_of_getElem? (i := 196) rfl)) rfl
theorem kw_677 : Cond.methodLink "TextForgeLaw" 110 ⟨"TextForgeLaw", "code", "(LTextForge;II[J)I"⟩ ∈ gw := gw_of (tm_3 (List.mem_of_getElem? (i := 197) rfl)) rfl
theorem kw_678 : Cond.static ⟨"TextForgeLaw", "code", "(LTextForge;II[J)I"⟩ ∈ gw := gw_of (tm_3 (List.mem_of_getElem? (i := 198) rfl)) rfl
theorem tw_679 : Cond.codeWith ⟨"TextForgeLaw", "code", "(LTextForge;II[J)I"⟩ method_8_code 5 (some .int) [(0, 10, 13, 37)] ∈ lw_tbl := List.mem_append_right _ (tm_3 (List.mem_of_getElem? (i := 199) rfl))
theorem kw_680 : Cond.classLink "TextForgeLaw" 37 "java/util/NoSuchElementException" ∈ gw := gw_of (tm_3 (List.mem_of_getElem? (i := 200) rfl)) rfl
theorem kw_681 : Cond.methodLink "TextForgeLaw" 33 ⟨"TextForge", "code", "(II)I"⟩ ∈ gw := gw_of (tm_3 (List.mem_of_getElem? (i := 201) rfl)) rfl
theorem kw_682 : Cond.instanceMethod ⟨"TextForge", "code", "(II)I"⟩ ∈ gw := gw_of (tm_3 (List.mem_of_getElem? (i := 202) rfl)) rfl
theorem kw_683 : Cond.selects "TextForge" ⟨"TextForge", "code", "(II)I"⟩ ⟨"TextForge", "code", "(II)I"⟩ ∈ gw := gw_of (tm_3 (List.mem_of_getElem? (i := 203) rfl)) rfl
theorem kw_684 : Cond.code ⟨"TextForge", "code", "(II)I"⟩ prog_1_method_16_code 3 (some .int) ∈ gw := gw_of (tm_3 (List.mem_of_getElem? (i := 204) rfl)) rfl
theorem kw_685 : Cond.classLink "TextForge" 156 "java/util/NoSuchElementException" ∈ gw := gw_of (tm_3 (List.mem_of_getElem? (i := 205) rfl)) rfl
theorem kw_686 : Cond.instantiable "java/util/NoSuchElementException" 6 ∈ gw := gw_of (tm_3 (List.mem_of_getElem? (i := 206) rfl)) rfl
theorem tw_687 : Cond.castable "java/util/NoSuchElementException" "java/util/NoSuchElementException" ∈ lw_tbl := List.mem_append_right _ (tm_3 (List.mem_of_getElem? (i := 207) rfl))
theorem kw_688 : Cond.selects "java/util/NoSuchElementException" ⟨"java/lang/Throwable", "fillInStackTrace", "(I)Ljava/lang/Throwable;"⟩ ⟨"java/lang/Throwable", "fillInStackTrace", "(I)Ljava/lang/Throwable;"⟩ ∈ gw := gw_of (tm_3 (List.mem_of_getElem? (i := 208) rfl)) rfl
theorem kw_689 : Cond.lays "java/util/NoSuchElementException" "java/lang/Throwable" "cause" "Ljava/lang/Throwable;" ∈ gw := gw_of (tm_3 (List.mem_of_getElem? (i := 209) rfl)) rfl
theorem kw_690 : Cond.lays "java/util/NoSuchElementException" "java/lang/Throwable" "stackTrace" "[Ljava/lang/StackTraceElement;" ∈ gw := gw_of (tm_3 (List.mem_of_getElem? (i := 210) rfl)) rfl
theorem kw_691 : Cond.lays "java/util/NoSuchElementException" "java/lang/Throwable" "suppressedExceptions" "Ljava/util/List;" ∈ gw := gw_of (tm_3 (List.mem_of_getElem? (i := 211) rfl)) rfl
theorem kw_692 : Cond.lays "java/util/NoSuchElementException" "java/lang/Throwable" "detailMessage" "Ljava/lang/String;" ∈ gw := gw_of (tm_3 (List.mem_of_getElem? (i := 212) rfl)) rfl
theorem kw_693 : Cond.lays "java/util/NoSuchElementException" "java/lang/Throwable" "backtrace" "Ljava/lang/Object;" ∈ gw := gw_of (tm_3 (List.mem_of_getElem? (i := 213) rfl)) rfl
theorem tw_694 : Cond.stringRef "TextForge" 158 "no such code, or nothing of it by this number" ∈ lw_tbl := List.mem_append_right _ (tm_3 (List.mem_of_getElem? (i := 214) rfl))
theorem kw_695 : Cond.methodLink "TextForge" 160 ⟨"java/util/NoSuchElementException", "<init>", "(Ljava/lang/String;)V"⟩ ∈ gw := gw_of (tm_3 (List.mem_of_getElem? (i := 215) rfl)) rfl
theorem kw_696 : Cond.instanceMethod ⟨"java/util/NoSuchElementException", "<init>", "(Ljava/lang/String;)V"⟩ ∈ gw := gw_of (tm_3 (List.mem_of_getElem? (i := 216) rfl)) rfl
theorem kw_697 : Cond.code ⟨"java/util/NoSuchElementException", "<init>", "(Ljava/lang/String;)V"⟩ prog_22_method_4_code 2 none ∈ gw := gw_of (tm_3 (List.mem_of_getElem? (i := 217) rfl)) rfl
theorem kw_698 : Cond.methodLink "java/util/NoSuchElementException" 13 ⟨"java/lang/RuntimeException", "<init>", "(Ljava/lang/String;)V"⟩ ∈ gw := gw_of (tm_3 (List.mem_of_getElem? (i := 218) rfl)) rfl
theorem kw_699 : Cond.lays "java/util/NoSuchElementException" "java/lang/Throwable" "depth" "I" ∈ gw := gw_of (tm_3 (List.mem_of_getElem? (i := 219) rfl)) rfl
theorem tw_700 : Cond.superclass "java/util/NoSuchElementException" "java/lang/RuntimeException" ∈ lw_tbl := List.mem_append_right _ (tm_3 (List.mem_of_getElem? (i := 220) rfl))
theorem kw_701 : Cond.methodLink "TextForge" 161 ⟨"TextForge$Codes", "valueOf", "(I)I"⟩ ∈ gw := gw_of (tm_3 (List.mem_of_getElem? (i := 221) rfl)) rfl
theorem kw_702 : Cond.instanceMethod ⟨"TextForge$Codes", "valueOf", "(I)I"⟩ ∈ gw := gw_of (tm_3 (List.mem_of_getElem? (i := 222) rfl)) rfl
theorem kw_703 : Cond.selects "TextForge$Codes" ⟨"TextForge$Codes", "valueOf", "(I)I"⟩ ⟨"TextForge$Codes", "valueOf", "(I)I"⟩ ∈ gw := gw_of (tm_3 (List.mem_of_getElem? (i := 223) rfl)) rfl
theorem kw_704 : Cond.code ⟨"TextForge$Codes", "valueOf", "(I)I"⟩ prog_5_method_3_code 2 (some .int) ∈ gw := gw_of (tm_3 (List.mem_of_getElem? (i := 224) rfl)) rfl
theorem kw_705 : Cond.methodLink "TextForge$Codes" 24 ⟨"TextForge$Utf8", "codeOf", "(J)I"⟩ ∈ gw := gw_of (tm_3 (List.mem_of_getElem? (i := 225) rfl)) rfl
theorem kw_706 : Cond.methodLink "TextForge" 164 ⟨"TextForge$Codes", "placeOf", "(I)I"⟩ ∈ gw := gw_of (tm_3 (List.mem_of_getElem? (i := 226) rfl)) rfl
theorem kw_707 : Cond.instanceMethod ⟨"TextForge$Codes", "placeOf", "(I)I"⟩ ∈ gw := gw_of (tm_3 (List.mem_of_getElem? (i := 227) rfl)) rfl
theorem kw_708 : Cond.selects "TextForge$Codes" ⟨"TextForge$Codes", "placeOf", "(I)I"⟩ ⟨"TextForge$Codes", "placeOf", "(I)I"⟩ ∈ gw := gw_of (tm_3 (List.mem_of_getElem? (i := 228) rfl)) rfl
theorem kw_709 : Cond.code ⟨"TextForge$Codes", "placeOf", "(I)I"⟩ prog_5_method_4_code 2 (some .int) ∈ gw := gw_of (tm_3 (List.mem_of_getElem? (i := 229) rfl)) rfl
theorem kw_710 : Cond.methodLink "TextForge" 167 ⟨"TextForge$Codes", "bytesOf", "(I)I"⟩ ∈ gw := gw_of (tm_3 (List.mem_of_getElem? (i := 230) rfl)) rfl
theorem kw_711 : Cond.methodLink "TextForgeLaw" 118 ⟨"TextForgeLaw", "byteOf", "(LTextForge;I[J)I"⟩ ∈ gw := gw_of (tm_3 (List.mem_of_getElem? (i := 231) rfl)) rfl
theorem kw_712 : Cond.static ⟨"TextForgeLaw", "byteOf", "(LTextForge;I[J)I"⟩ ∈ gw := gw_of (tm_3 (List.mem_of_getElem? (i := 232) rfl)) rfl
theorem tw_713 : Cond.codeWith ⟨"TextForgeLaw", "byteOf", "(LTextForge;I[J)I"⟩ method_9_code 4 (some .int) [(0, 9, 12, 37)] ∈ lw_tbl := List.mem_append_right _ (tm_3 (List.mem_of_getElem? (i := 233) rfl))
theorem kw_714 : Cond.methodLink "TextForgeLaw" 39 ⟨"TextForge", "byteOf", "(I)I"⟩ ∈ gw := gw_of (tm_3 (List.mem_of_getElem? (i := 234) rfl)) rfl
theorem kw_715 : Cond.instanceMethod ⟨"TextForge", "byteOf", "(I)I"⟩ ∈ gw := gw_of (tm_3 (List.mem_of_getElem? (i := 235) rfl)) rfl
theorem kw_716 : Cond.selects "TextForge" ⟨"TextForge", "byteOf", "(I)I"⟩ ⟨"TextForge", "byteOf", "(I)I"⟩ ∈ gw := gw_of (tm_3 (List.mem_of_getElem? (i := 236) rfl)) rfl
theorem kw_717 : Cond.code ⟨"TextForge", "byteOf", "(I)I"⟩ prog_1_method_18_code 3 (some .int) ∈ gw := gw_of (tm_3 (List.mem_of_getElem? (i := 237) rfl)) rfl
theorem tw_718 : Cond.stringRef "TextForge" 170 "the result has no such byte" ∈ lw_tbl := List.mem_append_right _ (tm_3 (List.mem_of_getElem? (i := 238) rfl))
theorem kw_719 : Cond.classLink "TextForgeLaw" 43 "TextForgeModel" ∈ gw := gw_of (tm_3 (List.mem_of_getElem? (i := 239) rfl)) rfl
theorem kw_720 : Cond.instantiable "TextForgeModel" 19 ∈ gw := gw_of (tm_4 (List.mem_of_getElem? (i := 0) rfl)) rfl
theorem kw_721 : Cond.methodLink "TextForgeLaw" 45 ⟨"TextForgeModel", "<init>", "()V"⟩ ∈ gw := gw_of (tm_4 (List.mem_of_getElem? (i := 1) rfl)) rfl
theorem kw_722 : Cond.instanceMethod ⟨"TextForgeModel", "<init>", "()V"⟩ ∈ gw := gw_of (tm_4 (List.mem_of_getElem? (i := 2) rfl)) rfl
theorem kw_723 : Cond.code ⟨"TextForgeModel", "<init>", "()V"⟩ prog_12_method_1_code 1 none ∈ gw := gw_of (tm_4 (List.mem_of_getElem? (i := 3) rfl)) rfl
theorem kw_724 : Cond.methodLink "TextForgeModel" 1 ⟨"java/lang/Object", "<init>", "()V"⟩ ∈ gw := gw_of (tm_4 (List.mem_of_getElem? (i := 4) rfl)) rfl
theorem kw_725 : Cond.constant "TextForgeModel" 24 (65536 : Int32) ∈ gw := gw_of (tm_4 (List.mem_of_getElem? (i := 5) rfl)) rfl
theorem kw_726 : Cond.fieldLink "TextForgeModel" 43 "TextForgeModel" "thrown" "I" ∈ gw := gw_of (tm_4 (List.mem_of_getElem? (i := 6) rfl)) rfl
theorem kw_727 : Cond.fieldLink "TextForgeModel" 47 "TextForgeModel" "fed" "I" ∈ gw := gw_of (tm_4 (List.mem_of_getElem? (i := 7) rfl)) rfl
theorem kw_728 : Cond.fieldLink "TextForgeModel" 7 "TextForgeModel" "text" "[B" ∈ gw := gw_of (tm_4 (List.mem_of_getElem? (i := 8) rfl)) rfl
theorem kw_729 : Cond.fieldLink "TextForgeModel" 50 "TextForgeModel" "many" "I" ∈ gw := gw_of (tm_4 (List.mem_of_getElem? (i := 9) rfl)) rfl
theorem kw_730 : Cond.fieldLink "TextForgeModel" 13 "TextForgeModel" "kind" "[I" ∈ gw := gw_of (tm_4 (List.mem_of_getElem? (i := 10) rfl)) rfl
theorem kw_731 : Cond.fieldLink "TextForgeModel" 17 "TextForgeModel" "value" "[J" ∈ gw := gw_of (tm_4 (List.mem_of_getElem? (i := 11) rfl)) rfl
theorem kw_732 : Cond.fieldLink "TextForgeModel" 21 "TextForgeModel" "wide" "[I" ∈ gw := gw_of (tm_4 (List.mem_of_getElem? (i := 12) rfl)) rfl
theorem kw_733 : Cond.fieldLink "TextForgeModel" 25 "TextForgeModel" "pool" "[B" ∈ gw := gw_of (tm_4 (List.mem_of_getElem? (i := 13) rfl)) rfl
theorem kw_734 : Cond.fieldLink "TextForgeModel" 78 "TextForgeModel" "made" "I" ∈ gw := gw_of (tm_4 (List.mem_of_getElem? (i := 14) rfl)) rfl
theorem kw_735 : Cond.fieldLink "TextForgeModel" 28 "TextForgeModel" "result" "[B" ∈ gw := gw_of (tm_4 (List.mem_of_getElem? (i := 15) rfl)) rfl
theorem kw_736 : Cond.fieldLink "TextForgeModel" 61 "TextForgeModel" "parts" "I" ∈ gw := gw_of (tm_4 (List.mem_of_getElem? (i := 16) rfl)) rfl
theorem kw_737 : Cond.fieldLink "TextForgeModel" 31 "TextForgeModel" "part" "[B" ∈ gw := gw_of (tm_4 (List.mem_of_getElem? (i := 17) rfl)) rfl
theorem kw_738 : Cond.fieldLink "TextForgeModel" 202 "TextForgeModel" "parsed" "J" ∈ gw := gw_of (tm_4 (List.mem_of_getElem? (i := 18) rfl)) rfl
theorem kw_739 : Cond.fieldLink "TextForgeModel" 126 "TextForgeModel" "codes" "I" ∈ gw := gw_of (tm_4 (List.mem_of_getElem? (i := 19) rfl)) rfl
theorem kw_740 : Cond.fieldLink "TextForgeModel" 34 "TextForgeModel" "code" "[I" ∈ gw := gw_of (tm_4 (List.mem_of_getElem? (i := 20) rfl)) rfl
theorem kw_741 : Cond.fieldLink "TextForgeModel" 37 "TextForgeModel" "place" "[I" ∈ gw := gw_of (tm_4 (List.mem_of_getElem? (i := 21) rfl)) rfl
theorem kw_742 : Cond.fieldLink "TextForgeModel" 40 "TextForgeModel" "bytes" "[I" ∈ gw := gw_of (tm_4 (List.mem_of_getElem? (i := 22) rfl)) rfl
theorem kw_743 : Cond.fieldLink "TextForgeModel" 107 "TextForgeModel" "lengthAt" "I" ∈ gw := gw_of (tm_4 (List.mem_of_getElem? (i := 23) rfl)) rfl
theorem kw_744 : Cond.fieldLink "TextForgeModel" 111 "TextForgeModel" "codeAt" "I" ∈ gw := gw_of (tm_4 (List.mem_of_getElem? (i := 24) rfl)) rfl
theorem kw_745 : Cond.lays "TextForgeModel" "TextForgeModel" "thrown" "I" ∈ gw := gw_of (tm_4 (List.mem_of_getElem? (i := 25) rfl)) rfl
theorem kw_746 : Cond.soleField "TextForgeModel" "thrown" ∈ gw := gw_of (tm_4 (List.mem_of_getElem? (i := 26) rfl)) rfl
theorem kw_747 : Cond.lays "TextForgeModel" "TextForgeModel" "fed" "I" ∈ gw := gw_of (tm_4 (List.mem_of_getElem? (i := 27) rfl)) rfl
theorem kw_748 : Cond.soleField "TextForgeModel" "fed" ∈ gw := gw_of (tm_4 (List.mem_of_getElem? (i := 28) rfl)) rfl
theorem kw_749 : Cond.laysFinal "TextForgeModel" "TextForgeModel" "text" "[B" ∈ gw := gw_of (tm_4 (List.mem_of_getElem? (i := 29) rfl)) rfl
theorem kw_750 : Cond.soleField "TextForgeModel" "text" ∈ gw := gw_of (tm_4 (List.mem_of_getElem? (i := 30) rfl)) rfl
theorem kw_751 : Cond.lays "TextForgeModel" "TextForgeModel" "many" "I" ∈ gw := gw_of (tm_4 (List.mem_of_getElem? (i := 31) rfl)) rfl
theorem kw_752 : Cond.soleField "TextForgeModel" "many" ∈ gw := gw_of (tm_4 (List.mem_of_getElem? (i := 32) rfl)) rfl
theorem kw_753 : Cond.laysFinal "TextForgeModel" "TextForgeModel" "kind" "[I" ∈ gw := gw_of (tm_4 (List.mem_of_getElem? (i := 33) rfl)) rfl
theorem kw_754 : Cond.soleField "TextForgeModel" "kind" ∈ gw := gw_of (tm_4 (List.mem_of_getElem? (i := 34) rfl)) rfl
theorem kw_755 : Cond.laysFinal "TextForgeModel" "TextForgeModel" "value" "[J" ∈ gw := gw_of (tm_4 (List.mem_of_getElem? (i := 35) rfl)) rfl
theorem kw_756 : Cond.soleField "TextForgeModel" "value" ∈ gw := gw_of (tm_4 (List.mem_of_getElem? (i := 36) rfl)) rfl
theorem kw_757 : Cond.laysFinal "TextForgeModel" "TextForgeModel" "wide" "[I" ∈ gw := gw_of (tm_4 (List.mem_of_getElem? (i := 37) rfl)) rfl
theorem kw_758 : Cond.soleField "TextForgeModel" "wide" ∈ gw := gw_of (tm_4 (List.mem_of_getElem? (i := 38) rfl)) rfl
theorem kw_759 : Cond.laysFinal "TextForgeModel" "TextForgeModel" "pool" "[B" ∈ gw := gw_of (tm_4 (List.mem_of_getElem? (i := 39) rfl)) rfl
theorem kw_760 : Cond.soleField "TextForgeModel" "pool" ∈ gw := gw_of (tm_4 (List.mem_of_getElem? (i := 40) rfl)) rfl
theorem kw_761 : Cond.lays "TextForgeModel" "TextForgeModel" "made" "I" ∈ gw := gw_of (tm_4 (List.mem_of_getElem? (i := 41) rfl)) rfl
theorem kw_762 : Cond.soleField "TextForgeModel" "made" ∈ gw := gw_of (tm_4 (List.mem_of_getElem? (i := 42) rfl)) rfl
theorem kw_763 : Cond.laysFinal "TextForgeModel" "TextForgeModel" "result" "[B" ∈ gw := gw_of (tm_4 (List.mem_of_getElem? (i := 43) rfl)) rfl
theorem kw_764 : Cond.soleField "TextForgeModel" "result" ∈ gw := gw_of (tm_4 (List.mem_of_getElem? (i := 44) rfl)) rfl
theorem kw_765 : Cond.lays "TextForgeModel" "TextForgeModel" "parts" "I" ∈ gw := gw_of (tm_4 (List.mem_of_getElem? (i := 45) rfl)) rfl
theorem kw_766 : Cond.soleField "TextForgeModel" "parts" ∈ gw := gw_of (tm_4 (List.mem_of_getElem? (i := 46) rfl)) rfl
theorem kw_767 : Cond.laysFinal "TextForgeModel" "TextForgeModel" "part" "[B" ∈ gw := gw_of (tm_4 (List.mem_of_getElem? (i := 47) rfl)) rfl
theorem kw_768 : Cond.soleField "TextForgeModel" "part" ∈ gw := gw_of (tm_4 (List.mem_of_getElem? (i := 48) rfl)) rfl
theorem kw_769 : Cond.lays "TextForgeModel" "TextForgeModel" "parsed" "J" ∈ gw := gw_of (tm_4 (List.mem_of_getElem? (i := 49) rfl)) rfl
theorem kw_770 : Cond.soleField "TextForgeModel" "parsed" ∈ gw := gw_of (tm_4 (List.mem_of_getElem? (i := 50) rfl)) rfl
theorem kw_771 : Cond.lays "TextForgeModel" "TextForgeModel" "codes" "I" ∈ gw := gw_of (tm_4 (List.mem_of_getElem? (i := 51) rfl)) rfl
theorem kw_772 : Cond.soleField "TextForgeModel" "codes" ∈ gw := gw_of (tm_4 (List.mem_of_getElem? (i := 52) rfl)) rfl
theorem kw_773 : Cond.laysFinal "TextForgeModel" "TextForgeModel" "code" "[I" ∈ gw := gw_of (tm_4 (List.mem_of_getElem? (i := 53) rfl)) rfl
theorem kw_774 : Cond.soleField "TextForgeModel" "code" ∈ gw := gw_of (tm_4 (List.mem_of_getElem? (i := 54) rfl)) rfl
theorem kw_775 : Cond.laysFinal "TextForgeModel" "TextForgeModel" "place" "[I" ∈ gw := gw_of (tm_4 (List.mem_of_getElem? (i := 55) rfl)) rfl
theorem kw_776 : Cond.soleField "TextForgeModel" "place" ∈ gw := gw_of (tm_4 (List.mem_of_getElem? (i := 56) rfl)) rfl
theorem kw_777 : Cond.laysFinal "TextForgeModel" "TextForgeModel" "bytes" "[I" ∈ gw := gw_of (tm_4 (List.mem_of_getElem? (i := 57) rfl)) rfl
theorem kw_778 : Cond.soleField "TextForgeModel" "bytes" ∈ gw := gw_of (tm_4 (List.mem_of_getElem? (i := 58) rfl)) rfl
theorem kw_779 : Cond.lays "TextForgeModel" "TextForgeModel" "lengthAt" "I" ∈ gw := gw_of (tm_4 (List.mem_of_getElem? (i := 59) rfl)) rfl
theorem kw_780 : Cond.soleField "TextForgeModel" "lengthAt" ∈ gw := gw_of (tm_4 (List.mem_of_getElem? (i := 60) rfl)) rfl
theorem kw_781 : Cond.lays "TextForgeModel" "TextForgeModel" "codeAt" "I" ∈ gw := gw_of (tm_4 (List.mem_of_getElem? (i := 61) rfl)) rfl
theorem kw_782 : Cond.soleField "TextForgeModel" "codeAt" ∈ gw := gw_of (tm_4 (List.mem_of_getElem? (i := 62) rfl)) rfl
theorem tw_783 : Cond.superclass "TextForgeModel" "java/lang/Object" ∈ lw_tbl := List.mem_append_right _ (tm_4 (List.mem_of_getElem? (i := 63) rfl))
theorem kw_784 : Cond.arrayClass .long ∈ gw := gw_of (tm_4 (List.mem_of_getElem? (i := 64) rfl)) rfl
theorem kw_785 : Cond.methodLink "TextForgeLaw" 63 ⟨"TextForgeModel", "thrown", "()I"⟩ ∈ gw := gw_of (tm_4 (List.mem_of_getElem? (i := 65) rfl)) rfl
theorem kw_786 : Cond.instanceMethod ⟨"TextForgeModel", "thrown", "()I"⟩ ∈ gw := gw_of (tm_4 (List.mem_of_getElem? (i := 66) rfl)) rfl
theorem kw_787 : Cond.selects "TextForgeModel" ⟨"TextForgeModel", "thrown", "()I"⟩ ⟨"TextForgeModel", "thrown", "()I"⟩ ∈ gw := gw_of (tm_4 (List.mem_of_getElem? (i := 67) rfl)) rfl
theorem kw_788 : Cond.code ⟨"TextForgeModel", "thrown", "()I"⟩ prog_12_method_2_code 1 (some .int) ∈ gw := gw_of (tm_4 (List.mem_of_getElem? (i := 68) rfl)) rfl
theorem kw_789 : Cond.methodLink "TextForgeLaw" 50 ⟨"TextForgeModel", "feed", "(IIIII)Z"⟩ ∈ gw := gw_of (tm_4 (List.mem_of_getElem? (i := 69) rfl)) rfl
theorem kw_790 : Cond.instanceMethod ⟨"TextForgeModel", "feed", "(IIIII)Z"⟩ ∈ gw := gw_of (tm_4 (List.mem_of_getElem? (i := 70) rfl)) rfl
theorem kw_791 : Cond.selects "TextForgeModel" ⟨"TextForgeModel", "feed", "(IIIII)Z"⟩ ⟨"TextForgeModel", "feed", "(IIIII)Z"⟩ ∈ gw := gw_of (tm_4 (List.mem_of_getElem? (i := 71) rfl)) rfl
theorem kw_792 : Cond.code ⟨"TextForgeModel", "feed", "(IIIII)Z"⟩ prog_12_method_4_code 8 (some .boolean) ∈ gw := gw_of (tm_4 (List.mem_of_getElem? (i := 72) rfl)) rfl
theorem kw_793 : Cond.methodLink "TextForgeLaw" 54 ⟨"TextForgeModel", "end", "(I)Z"⟩ ∈ gw := gw_of (tm_4 (List.mem_of_getElem? (i := 73) rfl)) rfl
theorem kw_794 : Cond.instanceMethod ⟨"TextForgeModel", "end", "(I)Z"⟩ ∈ gw := gw_of (tm_4 (List.mem_of_getElem? (i := 74) rfl)) rfl
theorem kw_795 : Cond.selects "TextForgeModel" ⟨"TextForgeModel", "end", "(I)Z"⟩ ⟨"TextForgeModel", "end", "(I)Z"⟩ ∈ gw := gw_of (tm_4 (List.mem_of_getElem? (i := 75) rfl)) rfl
theorem kw_796 : Cond.code ⟨"TextForgeModel", "end", "(I)Z"⟩ prog_12_method_5_code 2 (some .boolean) ∈ gw := gw_of (tm_4 (List.mem_of_getElem? (i := 76) rfl)) rfl
theorem kw_797 : Cond.methodLink "TextForgeLaw" 62 ⟨"TextForgeModel", "number", "(JZ)I"⟩ ∈ gw := gw_of (tm_4 (List.mem_of_getElem? (i := 77) rfl)) rfl
theorem kw_798 : Cond.instanceMethod ⟨"TextForgeModel", "number", "(JZ)I"⟩ ∈ gw := gw_of (tm_4 (List.mem_of_getElem? (i := 78) rfl)) rfl
theorem kw_799 : Cond.selects "TextForgeModel" ⟨"TextForgeModel", "number", "(JZ)I"⟩ ⟨"TextForgeModel", "number", "(JZ)I"⟩ ∈ gw := gw_of (tm_4 (List.mem_of_getElem? (i := 79) rfl)) rfl
theorem kw_800 : Cond.code ⟨"TextForgeModel", "number", "(JZ)I"⟩ prog_12_method_7_code 4 (some .int) ∈ gw := gw_of (tm_4 (List.mem_of_getElem? (i := 80) rfl)) rfl
theorem kw_801 : Cond.methodLink "TextForgeModel" 57 ⟨"TextForgeModel", "argue", "(IJ)I"⟩ ∈ gw := gw_of (tm_4 (List.mem_of_getElem? (i := 81) rfl)) rfl
theorem tw_802 : Cond.privateMethod ⟨"TextForgeModel", "argue", "(IJ)I"⟩ ∈ lw_tbl := List.mem_append_right _ (tm_4 (List.mem_of_getElem? (i := 82) rfl))
theorem kw_803 : Cond.instanceMethod ⟨"TextForgeModel", "argue", "(IJ)I"⟩ ∈ gw := gw_of (tm_4 (List.mem_of_getElem? (i := 83) rfl)) rfl
theorem kw_804 : Cond.code ⟨"TextForgeModel", "argue", "(IJ)I"⟩ prog_12_method_6_code 4 (some .int) ∈ gw := gw_of (tm_4 (List.mem_of_getElem? (i := 84) rfl)) rfl
theorem kw_805 : Cond.methodLink "TextForgeModel" 53 ⟨"TextForgeModel", "fail", "(I)I"⟩ ∈ gw := gw_of (tm_4 (List.mem_of_getElem? (i := 85) rfl)) rfl
theorem tw_806 : Cond.privateMethod ⟨"TextForgeModel", "fail", "(I)I"⟩ ∈ lw_tbl := List.mem_append_right _ (tm_4 (List.mem_of_getElem? (i := 86) rfl))
theorem kw_807 : Cond.instanceMethod ⟨"TextForgeModel", "fail", "(I)I"⟩ ∈ gw := gw_of (tm_4 (List.mem_of_getElem? (i := 87) rfl)) rfl
theorem kw_808 : Cond.code ⟨"TextForgeModel", "fail", "(I)I"⟩ prog_12_method_3_code 2 (some .int) ∈ gw := gw_of (tm_4 (List.mem_of_getElem? (i := 88) rfl)) rfl
theorem kw_809 : Cond.methodLink "TextForgeLaw" 69 ⟨"TextForgeModel", "truth", "(Z)I"⟩ ∈ gw := gw_of (tm_4 (List.mem_of_getElem? (i := 89) rfl)) rfl
theorem kw_810 : Cond.instanceMethod ⟨"TextForgeModel", "truth", "(Z)I"⟩ ∈ gw := gw_of (tm_4 (List.mem_of_getElem? (i := 90) rfl)) rfl
theorem kw_811 : Cond.selects "TextForgeModel" ⟨"TextForgeModel", "truth", "(Z)I"⟩ ⟨"TextForgeModel", "truth", "(Z)I"⟩ ∈ gw := gw_of (tm_4 (List.mem_of_getElem? (i := 91) rfl)) rfl
theorem kw_812 : Cond.code ⟨"TextForgeModel", "truth", "(Z)I"⟩ prog_12_method_8_code 2 (some .int) ∈ gw := gw_of (tm_4 (List.mem_of_getElem? (i := 92) rfl)) rfl
theorem kw_813 : Cond.methodLink "TextForgeLaw" 73 ⟨"TextForgeModel", "text", "()I"⟩ ∈ gw := gw_of (tm_4 (List.mem_of_getElem? (i := 93) rfl)) rfl
theorem kw_814 : Cond.instanceMethod ⟨"TextForgeModel", "text", "()I"⟩ ∈ gw := gw_of (tm_4 (List.mem_of_getElem? (i := 94) rfl)) rfl
theorem kw_815 : Cond.selects "TextForgeModel" ⟨"TextForgeModel", "text", "()I"⟩ ⟨"TextForgeModel", "text", "()I"⟩ ∈ gw := gw_of (tm_4 (List.mem_of_getElem? (i := 95) rfl)) rfl
theorem kw_816 : Cond.code ⟨"TextForgeModel", "text", "()I"⟩ prog_12_method_9_code 3 (some .int) ∈ gw := gw_of (tm_4 (List.mem_of_getElem? (i := 96) rfl)) rfl
theorem kw_817 : Cond.methodLink "TextForgeLaw" 77 ⟨"TextForgeModel", "thing", "(I)I"⟩ ∈ gw := gw_of (tm_4 (List.mem_of_getElem? (i := 97) rfl)) rfl
theorem kw_818 : Cond.instanceMethod ⟨"TextForgeModel", "thing", "(I)I"⟩ ∈ gw := gw_of (tm_4 (List.mem_of_getElem? (i := 98) rfl)) rfl
theorem kw_819 : Cond.selects "TextForgeModel" ⟨"TextForgeModel", "thing", "(I)I"⟩ ⟨"TextForgeModel", "thing", "(I)I"⟩ ∈ gw := gw_of (tm_4 (List.mem_of_getElem? (i := 99) rfl)) rfl
theorem kw_820 : Cond.code ⟨"TextForgeModel", "thing", "(I)I"⟩ prog_12_method_10_code 2 (some .int) ∈ gw := gw_of (tm_4 (List.mem_of_getElem? (i := 100) rfl)) rfl
theorem kw_821 : Cond.methodLink "TextForgeLaw" 81 ⟨"TextForgeModel", "clear", "()V"⟩ ∈ gw := gw_of (tm_4 (List.mem_of_getElem? (i := 101) rfl)) rfl
theorem kw_822 : Cond.instanceMethod ⟨"TextForgeModel", "clear", "()V"⟩ ∈ gw := gw_of (tm_4 (List.mem_of_getElem? (i := 102) rfl)) rfl
theorem kw_823 : Cond.selects "TextForgeModel" ⟨"TextForgeModel", "clear", "()V"⟩ ⟨"TextForgeModel", "clear", "()V"⟩ ∈ gw := gw_of (tm_4 (List.mem_of_getElem? (i := 103) rfl)) rfl
theorem kw_824 : Cond.code ⟨"TextForgeModel", "clear", "()V"⟩ prog_12_method_11_code 1 none ∈ gw := gw_of (tm_4 (List.mem_of_getElem? (i := 104) rfl)) rfl
theorem kw_825 : Cond.methodLink "TextForgeLaw" 109 ⟨"TextForgeModel", "decode", "()I"⟩ ∈ gw := gw_of (tm_4 (List.mem_of_getElem? (i := 105) rfl)) rfl
theorem kw_826 : Cond.instanceMethod ⟨"TextForgeModel", "decode", "()I"⟩ ∈ gw := gw_of (tm_4 (List.mem_of_getElem? (i := 106) rfl)) rfl
theorem kw_827 : Cond.selects "TextForgeModel" ⟨"TextForgeModel", "decode", "()I"⟩ ⟨"TextForgeModel", "decode", "()I"⟩ ∈ gw := gw_of (tm_4 (List.mem_of_getElem? (i := 107) rfl)) rfl
theorem kw_828 : Cond.code ⟨"TextForgeModel", "decode", "()I"⟩ prog_12_method_24_code 2 (some .int) ∈ gw := gw_of (tm_4 (List.mem_of_getElem? (i := 108) rfl)) rfl
theorem kw_829 : Cond.methodLink "TextForgeModel" 118 ⟨"TextForgeModel", "look", "([BII)V"⟩ ∈ gw := gw_of (tm_4 (List.mem_of_getElem? (i := 109) rfl)) rfl
theorem tw_830 : Cond.privateMethod ⟨"TextForgeModel", "look", "([BII)V"⟩ ∈ lw_tbl := List.mem_append_right _ (tm_4 (List.mem_of_getElem? (i := 110) rfl))
theorem kw_831 : Cond.instanceMethod ⟨"TextForgeModel", "look", "([BII)V"⟩ ∈ gw := gw_of (tm_4 (List.mem_of_getElem? (i := 111) rfl)) rfl
theorem kw_832 : Cond.code ⟨"TextForgeModel", "look", "([BII)V"⟩ prog_12_method_22_code 9 none ∈ gw := gw_of (tm_4 (List.mem_of_getElem? (i := 112) rfl)) rfl
theorem kw_833 : Cond.constant "TextForgeModel" 110 (65533 : Int32) ∈ gw := gw_of (tm_4 (List.mem_of_getElem? (i := 113) rfl)) rfl
theorem kw_834 : Cond.methodLink "TextForgeModel" 114 ⟨"TextForgeModel", "isCode", "(J)Z"⟩ ∈ gw := gw_of (tm_4 (List.mem_of_getElem? (i := 114) rfl)) rfl
theorem kw_835 : Cond.static ⟨"TextForgeModel", "isCode", "(J)Z"⟩ ∈ gw := gw_of (tm_4 (List.mem_of_getElem? (i := 115) rfl)) rfl
theorem kw_836 : Cond.code ⟨"TextForgeModel", "isCode", "(J)Z"⟩ prog_12_method_18_code 2 (some .boolean) ∈ gw := gw_of (tm_4 (List.mem_of_getElem? (i := 116) rfl)) rfl
theorem kw_837 : Cond.constantLong "TextForgeModel" 93 (1114111 : Int64) ∈ gw := gw_of (tm_4 (List.mem_of_getElem? (i := 117) rfl)) rfl
theorem kw_838 : Cond.constantLong "TextForgeModel" 95 (55296 : Int64) ∈ gw := gw_of (tm_4 (List.mem_of_getElem? (i := 118) rfl)) rfl
theorem kw_839 : Cond.constantLong "TextForgeModel" 97 (57343 : Int64) ∈ gw := gw_of (tm_4 (List.mem_of_getElem? (i := 119) rfl)) rfl
theorem kw_840 : Cond.methodLink "TextForgeLaw" 113 ⟨"TextForgeModel", "code", "(II)I"⟩ ∈ gw := gw_of (tm_4 (List.mem_of_getElem? (i := 120) rfl)) rfl
theorem kw_841 : Cond.instanceMethod ⟨"TextForgeModel", "code", "(II)I"⟩ ∈ gw := gw_of (tm_4 (List.mem_of_getElem? (i := 121) rfl)) rfl
theorem kw_842 : Cond.selects "TextForgeModel" ⟨"TextForgeModel", "code", "(II)I"⟩ ⟨"TextForgeModel", "code", "(II)I"⟩ ∈ gw := gw_of (tm_4 (List.mem_of_getElem? (i := 122) rfl)) rfl
theorem kw_843 : Cond.code ⟨"TextForgeModel", "code", "(II)I"⟩ prog_12_method_25_code 3 (some .int) ∈ gw := gw_of (tm_4 (List.mem_of_getElem? (i := 123) rfl)) rfl
theorem kw_844 : Cond.methodLink "TextForgeLaw" 85 ⟨"TextForgeModel", "format", "()I"⟩ ∈ gw := gw_of (tm_4 (List.mem_of_getElem? (i := 124) rfl)) rfl
theorem kw_845 : Cond.instanceMethod ⟨"TextForgeModel", "format", "()I"⟩ ∈ gw := gw_of (tm_4 (List.mem_of_getElem? (i := 125) rfl)) rfl
theorem kw_846 : Cond.selects "TextForgeModel" ⟨"TextForgeModel", "format", "()I"⟩ ⟨"TextForgeModel", "format", "()I"⟩ ∈ gw := gw_of (tm_4 (List.mem_of_getElem? (i := 126) rfl)) rfl
theorem kw_847 : Cond.code ⟨"TextForgeModel", "format", "()I"⟩ prog_12_method_35_code 9 (some .int) ∈ gw := gw_of (tm_4 (List.mem_of_getElem? (i := 127) rfl)) rfl
theorem kw_848 : Cond.methodLink "TextForgeModel" 188 ⟨"TextForgeModel", "give", "(I)V"⟩ ∈ gw := gw_of (tm_4 (List.mem_of_getElem? (i := 128) rfl)) rfl
theorem tw_849 : Cond.privateMethod ⟨"TextForgeModel", "give", "(I)V"⟩ ∈ lw_tbl := List.mem_append_right _ (tm_4 (List.mem_of_getElem? (i := 129) rfl))
theorem kw_850 : Cond.instanceMethod ⟨"TextForgeModel", "give", "(I)V"⟩ ∈ gw := gw_of (tm_4 (List.mem_of_getElem? (i := 130) rfl)) rfl
theorem kw_851 : Cond.code ⟨"TextForgeModel", "give", "(I)V"⟩ prog_12_method_14_code 2 none ∈ gw := gw_of (tm_4 (List.mem_of_getElem? (i := 131) rfl)) rfl
theorem kw_852 : Cond.methodLink "TextForgeModel" 191 ⟨"TextForgeModel", "makes", "(IIZ)Z"⟩ ∈ gw := gw_of (tm_4 (List.mem_of_getElem? (i := 132) rfl)) rfl
theorem tw_853 : Cond.privateMethod ⟨"TextForgeModel", "makes", "(IIZ)Z"⟩ ∈ lw_tbl := List.mem_append_right _ (tm_4 (List.mem_of_getElem? (i := 133) rfl))
theorem kw_854 : Cond.instanceMethod ⟨"TextForgeModel", "makes", "(IIZ)Z"⟩ ∈ gw := gw_of (tm_4 (List.mem_of_getElem? (i := 134) rfl)) rfl
theorem kw_855 : Cond.code ⟨"TextForgeModel", "makes", "(IIZ)Z"⟩ prog_12_method_32_code 8 (some .boolean) ∈ gw := gw_of (tm_4 (List.mem_of_getElem? (i := 135) rfl)) rfl
theorem kw_856 : Cond.methodLink "TextForgeModel" 175 ⟨"TextForgeModel", "baseOf", "(I)I"⟩ ∈ gw := gw_of (tm_4 (List.mem_of_getElem? (i := 136) rfl)) rfl
theorem kw_857 : Cond.static ⟨"TextForgeModel", "baseOf", "(I)I"⟩ ∈ gw := gw_of (tm_4 (List.mem_of_getElem? (i := 137) rfl)) rfl
theorem kw_858 : Cond.code ⟨"TextForgeModel", "baseOf", "(I)I"⟩ prog_12_method_31_code 1 (some .int) ∈ gw := gw_of (tm_4 (List.mem_of_getElem? (i := 138) rfl)) rfl
theorem kw_859 : Cond.methodLink "TextForgeModel" 151 ⟨"TextForgeModel", "isBelow", "(I)Z"⟩ ∈ gw := gw_of (tm_4 (List.mem_of_getElem? (i := 139) rfl)) rfl
theorem tw_860 : Cond.privateMethod ⟨"TextForgeModel", "isBelow", "(I)Z"⟩ ∈ lw_tbl := List.mem_append_right _ (tm_4 (List.mem_of_getElem? (i := 140) rfl))
theorem kw_861 : Cond.instanceMethod ⟨"TextForgeModel", "isBelow", "(I)Z"⟩ ∈ gw := gw_of (tm_4 (List.mem_of_getElem? (i := 141) rfl)) rfl
theorem kw_862 : Cond.code ⟨"TextForgeModel", "isBelow", "(I)Z"⟩ prog_12_method_27_code 2 (some .boolean) ∈ gw := gw_of (tm_4 (List.mem_of_getElem? (i := 142) rfl)) rfl
theorem kw_863 : Cond.methodLink "TextForgeModel" 74 ⟨"TextForgeModel", "put", "(I)V"⟩ ∈ gw := gw_of (tm_4 (List.mem_of_getElem? (i := 143) rfl)) rfl
theorem tw_864 : Cond.privateMethod ⟨"TextForgeModel", "put", "(I)V"⟩ ∈ lw_tbl := List.mem_append_right _ (tm_4 (List.mem_of_getElem? (i := 144) rfl))
theorem kw_865 : Cond.instanceMethod ⟨"TextForgeModel", "put", "(I)V"⟩ ∈ gw := gw_of (tm_4 (List.mem_of_getElem? (i := 145) rfl)) rfl
theorem kw_866 : Cond.code ⟨"TextForgeModel", "put", "(I)V"⟩ prog_12_method_12_code 2 none ∈ gw := gw_of (tm_4 (List.mem_of_getElem? (i := 146) rfl)) rfl
theorem kw_867 : Cond.methodLink "TextForgeModel" 155 ⟨"TextForgeModel", "sized", "(IIZ)V"⟩ ∈ gw := gw_of (tm_4 (List.mem_of_getElem? (i := 147) rfl)) rfl
theorem tw_868 : Cond.privateMethod ⟨"TextForgeModel", "sized", "(IIZ)V"⟩ ∈ lw_tbl := List.mem_append_right _ (tm_4 (List.mem_of_getElem? (i := 148) rfl))
theorem kw_869 : Cond.instanceMethod ⟨"TextForgeModel", "sized", "(IIZ)V"⟩ ∈ gw := gw_of (tm_4 (List.mem_of_getElem? (i := 149) rfl)) rfl
theorem kw_870 : Cond.code ⟨"TextForgeModel", "sized", "(IIZ)V"⟩ prog_12_method_26_code 4 none ∈ gw := gw_of (tm_4 (List.mem_of_getElem? (i := 150) rfl)) rfl
theorem kw_871 : Cond.methodLink "TextForgeModel" 129 ⟨"TextForgeModel", "digits", "(JIZ)V"⟩ ∈ gw := gw_of (tm_4 (List.mem_of_getElem? (i := 151) rfl)) rfl
theorem tw_872 : Cond.privateMethod ⟨"TextForgeModel", "digits", "(JIZ)V"⟩ ∈ lw_tbl := List.mem_append_right _ (tm_4 (List.mem_of_getElem? (i := 152) rfl))
theorem kw_873 : Cond.instanceMethod ⟨"TextForgeModel", "digits", "(JIZ)V"⟩ ∈ gw := gw_of (tm_4 (List.mem_of_getElem? (i := 153) rfl)) rfl
theorem kw_874 : Cond.code ⟨"TextForgeModel", "digits", "(JIZ)V"⟩ prog_12_method_17_code 10 none ∈ gw := gw_of (tm_4 (List.mem_of_getElem? (i := 154) rfl)) rfl
theorem kw_875 : Cond.methodLink "TextForgeModel" 89 ⟨"TextForgeModel", "goes", "(JI)J"⟩ ∈ gw := gw_of (tm_4 (List.mem_of_getElem? (i := 155) rfl)) rfl
theorem kw_876 : Cond.static ⟨"TextForgeModel", "goes", "(JI)J"⟩ ∈ gw := gw_of (tm_4 (List.mem_of_getElem? (i := 156) rfl)) rfl
theorem kw_877 : Cond.code ⟨"TextForgeModel", "goes", "(JI)J"⟩ prog_12_method_16_code 5 (some .long) ∈ gw := gw_of (tm_4 (List.mem_of_getElem? (i := 157) rfl)) rfl
theorem kw_878 : Cond.methodLink "TextForgeModel" 85 ⟨"TextForgeModel", "less", "(JJ)Z"⟩ ∈ gw := gw_of (tm_4 (List.mem_of_getElem? (i := 158) rfl)) rfl
theorem kw_879 : Cond.static ⟨"TextForgeModel", "less", "(JJ)Z"⟩ ∈ gw := gw_of (tm_4 (List.mem_of_getElem? (i := 159) rfl)) rfl
theorem kw_880 : Cond.code ⟨"TextForgeModel", "less", "(JJ)Z"⟩ prog_12_method_15_code 4 (some .boolean) ∈ gw := gw_of (tm_4 (List.mem_of_getElem? (i := 160) rfl)) rfl
theorem kw_881 : Cond.constantLong "TextForgeModel" 83 (-9223372036854775808 : Int64) ∈ gw := gw_of (tm_4 (List.mem_of_getElem? (i := 161) rfl)) rfl
theorem kw_882 : Cond.methodLink "TextForgeModel" 178 ⟨"TextForgeModel", "hexOf", "(IZ)V"⟩ ∈ gw := gw_of (tm_4 (List.mem_of_getElem? (i := 162) rfl)) rfl
theorem tw_883 : Cond.privateMethod ⟨"TextForgeModel", "hexOf", "(IZ)V"⟩ ∈ lw_tbl := List.mem_append_right _ (tm_4 (List.mem_of_getElem? (i := 163) rfl))
theorem kw_884 : Cond.instanceMethod ⟨"TextForgeModel", "hexOf", "(IZ)V"⟩ ∈ gw := gw_of (tm_4 (List.mem_of_getElem? (i := 164) rfl)) rfl
theorem kw_885 : Cond.code ⟨"TextForgeModel", "hexOf", "(IZ)V"⟩ prog_12_method_33_code 5 none ∈ gw := gw_of (tm_4 (List.mem_of_getElem? (i := 165) rfl)) rfl
theorem kw_886 : Cond.methodLink "TextForgeModel" 101 ⟨"TextForgeModel", "hex", "(I)V"⟩ ∈ gw := gw_of (tm_4 (List.mem_of_getElem? (i := 166) rfl)) rfl
theorem tw_887 : Cond.privateMethod ⟨"TextForgeModel", "hex", "(I)V"⟩ ∈ lw_tbl := List.mem_append_right _ (tm_4 (List.mem_of_getElem? (i := 167) rfl))
theorem kw_888 : Cond.instanceMethod ⟨"TextForgeModel", "hex", "(I)V"⟩ ∈ gw := gw_of (tm_4 (List.mem_of_getElem? (i := 168) rfl)) rfl
theorem kw_889 : Cond.code ⟨"TextForgeModel", "hex", "(I)V"⟩ prog_12_method_20_code 2 none ∈ gw := gw_of (tm_4 (List.mem_of_getElem? (i := 169) rfl)) rfl
theorem kw_890 : Cond.methodLink "TextForgeModel" 104 ⟨"TextForgeModel", "utf", "(I)V"⟩ ∈ gw := gw_of (tm_4 (List.mem_of_getElem? (i := 170) rfl)) rfl
theorem tw_891 : Cond.privateMethod ⟨"TextForgeModel", "utf", "(I)V"⟩ ∈ lw_tbl := List.mem_append_right _ (tm_4 (List.mem_of_getElem? (i := 171) rfl))
theorem kw_892 : Cond.instanceMethod ⟨"TextForgeModel", "utf", "(I)V"⟩ ∈ gw := gw_of (tm_4 (List.mem_of_getElem? (i := 172) rfl)) rfl
theorem kw_893 : Cond.code ⟨"TextForgeModel", "utf", "(I)V"⟩ prog_12_method_19_code 2 none ∈ gw := gw_of (tm_4 (List.mem_of_getElem? (i := 173) rfl)) rfl
theorem kw_894 : Cond.methodLink "TextForgeModel" 122 ⟨"TextForgeModel", "quoted", "(II)V"⟩ ∈ gw := gw_of (tm_4 (List.mem_of_getElem? (i := 174) rfl)) rfl
theorem tw_895 : Cond.privateMethod ⟨"TextForgeModel", "quoted", "(II)V"⟩ ∈ lw_tbl := List.mem_append_right _ (tm_4 (List.mem_of_getElem? (i := 175) rfl))
theorem kw_896 : Cond.instanceMethod ⟨"TextForgeModel", "quoted", "(II)V"⟩ ∈ gw := gw_of (tm_4 (List.mem_of_getElem? (i := 176) rfl)) rfl
theorem kw_897 : Cond.code ⟨"TextForgeModel", "quoted", "(II)V"⟩ prog_12_method_21_code 3 none ∈ gw := gw_of (tm_4 (List.mem_of_getElem? (i := 177) rfl)) rfl
theorem tw_898 : Cond.stringRef "TextForgeModel" 99 "abtnvfr" ∈ lw_tbl := List.mem_append_right _ (tm_4 (List.mem_of_getElem? (i := 178) rfl))
theorem kw_899 : Cond.methodLink "TextForgeModel" 70 ⟨"java/lang/String", "charAt", "(I)C"⟩ ∈ gw := gw_of (tm_4 (List.mem_of_getElem? (i := 179) rfl)) rfl
theorem kw_900 : Cond.methodLink "TextForgeModel" 166 ⟨"TextForgeModel", "textOf", "(I)V"⟩ ∈ gw := gw_of (tm_4 (List.mem_of_getElem? (i := 180) rfl)) rfl
theorem tw_901 : Cond.privateMethod ⟨"TextForgeModel", "textOf", "(I)V"⟩ ∈ lw_tbl := List.mem_append_right _ (tm_4 (List.mem_of_getElem? (i := 181) rfl))
theorem kw_902 : Cond.instanceMethod ⟨"TextForgeModel", "textOf", "(I)V"⟩ ∈ gw := gw_of (tm_4 (List.mem_of_getElem? (i := 182) rfl)) rfl
theorem kw_903 : Cond.code ⟨"TextForgeModel", "textOf", "(I)V"⟩ prog_12_method_29_code 3 none ∈ gw := gw_of (tm_4 (List.mem_of_getElem? (i := 183) rfl)) rfl
theorem kw_904 : Cond.methodLink "TextForgeModel" 182 ⟨"TextForgeModel", "quoteRow", "([BII)V"⟩ ∈ gw := gw_of (tm_4 (List.mem_of_getElem? (i := 184) rfl)) rfl
theorem tw_905 : Cond.privateMethod ⟨"TextForgeModel", "quoteRow", "([BII)V"⟩ ∈ lw_tbl := List.mem_append_right _ (tm_4 (List.mem_of_getElem? (i := 185) rfl))
theorem kw_906 : Cond.instanceMethod ⟨"TextForgeModel", "quoteRow", "([BII)V"⟩ ∈ gw := gw_of (tm_4 (List.mem_of_getElem? (i := 186) rfl)) rfl
theorem kw_907 : Cond.code ⟨"TextForgeModel", "quoteRow", "([BII)V"⟩ prog_12_method_23_code 5 none ∈ gw := gw_of (tm_4 (List.mem_of_getElem? (i := 187) rfl)) rfl
theorem kw_908 : Cond.methodLink "TextForgeModel" 185 ⟨"TextForgeModel", "plain", "(I)V"⟩ ∈ gw := gw_of (tm_4 (List.mem_of_getElem? (i := 188) rfl)) rfl
theorem tw_909 : Cond.privateMethod ⟨"TextForgeModel", "plain", "(I)V"⟩ ∈ lw_tbl := List.mem_append_right _ (tm_4 (List.mem_of_getElem? (i := 189) rfl))
theorem kw_910 : Cond.instanceMethod ⟨"TextForgeModel", "plain", "(I)V"⟩ ∈ gw := gw_of (tm_4 (List.mem_of_getElem? (i := 190) rfl)) rfl
theorem kw_911 : Cond.code ⟨"TextForgeModel", "plain", "(I)V"⟩ prog_12_method_30_code 2 none ∈ gw := gw_of (tm_4 (List.mem_of_getElem? (i := 191) rfl)) rfl
theorem tw_912 : Cond.stringRef "TextForgeModel" 159 "true" ∈ lw_tbl := List.mem_append_right _ (tm_4 (List.mem_of_getElem? (i := 192) rfl))
theorem tw_913 : Cond.stringRef "TextForgeModel" 161 "false" ∈ lw_tbl := List.mem_append_right _ (tm_4 (List.mem_of_getElem? (i := 193) rfl))
theorem kw_914 : Cond.methodLink "TextForgeModel" 163 ⟨"TextForgeModel", "put", "(Ljava/lang/String;)V"⟩ ∈ gw := gw_of (tm_4 (List.mem_of_getElem? (i := 194) rfl)) rfl
theorem tw_915 : Cond.privateMethod ⟨"TextForgeModel", "put", "(Ljava/lang/String;)V"⟩ ∈ lw_tbl := List.mem_append_right _ (tm_4 (List.mem_of_getElem? (i := 195) rfl))
theorem kw_916 : Cond.instanceMethod ⟨"TextForgeModel", "put", "(Ljava/lang/String;)V"⟩ ∈ gw := gw_of (tm_4 (List.mem_of_getElem? (i := 196) rfl)) rfl
theorem kw_917 : Cond.code ⟨"TextForgeModel", "put", "(Ljava/lang/String;)V"⟩ prog_12_method_13_code 3 none ∈ gw := gw_of (tm_4 (List.mem_of_getElem? (i := 197) rfl)) rfl
theorem kw_918 : Cond.methodLink "TextForgeModel" 64 ⟨"java/lang/String", "length", "()I"⟩ ∈ gw := gw_of (tm_4 (List.mem_of_getElem? (i := 198) rfl)) rfl
theorem tw_919 : Cond.stringRef "TextForgeModel" 169 "nil" ∈ lw_tbl := List.mem_append_right _ (tm_4 (List.mem_of_getElem? (i := 199) rfl))
theorem kw_920 : Cond.methodLink "TextForgeModel" 171 ⟨"TextForgeModel", "sortOf", "(I)Ljava/lang/String;"⟩ ∈ gw := gw_of (tm_4 (List.mem_of_getElem? (i := 200) rfl)) rfl
theorem kw_921 : Cond.static ⟨"TextForgeModel", "sortOf", "(I)Ljava/lang/String;"⟩ ∈ gw := gw_of (tm_4 (List.mem_of_getElem? (i := 201) rfl)) rfl
theorem kw_922 : Cond.code ⟨"TextForgeModel", "sortOf", "(I)Ljava/lang/String;"⟩ prog_12_method_28_code 1 (some (.object "java/lang/String")) ∈ gw := gw_of (tm_4 (List.mem_of_getElem? (i := 202) rfl)) rfl
theorem tw_923 : Cond.stringRef "TextForgeModel" 133 "(ptr)" ∈ lw_tbl := List.mem_append_right _ (tm_4 (List.mem_of_getElem? (i := 203) rfl))
theorem tw_924 : Cond.stringRef "TextForgeModel" 135 "(func)" ∈ lw_tbl := List.mem_append_right _ (tm_4 (List.mem_of_getElem? (i := 204) rfl))
theorem tw_925 : Cond.stringRef "TextForgeModel" 137 "(slice)" ∈ lw_tbl := List.mem_append_right _ (tm_4 (List.mem_of_getElem? (i := 205) rfl))
theorem tw_926 : Cond.stringRef "TextForgeModel" 139 "(map)" ∈ lw_tbl := List.mem_append_right _ (tm_4 (List.mem_of_getElem? (i := 206) rfl))
theorem tw_927 : Cond.stringRef "TextForgeModel" 141 "(chan)" ∈ lw_tbl := List.mem_append_right _ (tm_4 (List.mem_of_getElem? (i := 207) rfl))
theorem tw_928 : Cond.stringRef "TextForgeModel" 143 "(interface)" ∈ lw_tbl := List.mem_append_right _ (tm_4 (List.mem_of_getElem? (i := 208) rfl))
theorem tw_929 : Cond.stringRef "TextForgeModel" 145 "(struct)" ∈ lw_tbl := List.mem_append_right _ (tm_4 (List.mem_of_getElem? (i := 209) rfl))
theorem tw_930 : Cond.stringRef "TextForgeModel" 147 "(array)" ∈ lw_tbl := List.mem_append_right _ (tm_4 (List.mem_of_getElem? (i := 210) rfl))
theorem tw_931 : Cond.stringRef "TextForgeModel" 149 "(gate)" ∈ lw_tbl := List.mem_append_right _ (tm_4 (List.mem_of_getElem? (i := 211) rfl))
theorem kw_932 : Cond.methodLink "TextForgeModel" 195 ⟨"TextForgeModel", "lay", "(IZZ)V"⟩ ∈ gw := gw_of (tm_4 (List.mem_of_getElem? (i := 212) rfl)) rfl
theorem tw_933 : Cond.privateMethod ⟨"TextForgeModel", "lay", "(IZZ)V"⟩ ∈ lw_tbl := List.mem_append_right _ (tm_4 (List.mem_of_getElem? (i := 213) rfl))
theorem kw_934 : Cond.instanceMethod ⟨"TextForgeModel", "lay", "(IZZ)V"⟩ ∈ gw := gw_of (tm_4 (List.mem_of_getElem? (i := 214) rfl)) rfl
theorem kw_935 : Cond.code ⟨"TextForgeModel", "lay", "(IZZ)V"⟩ prog_12_method_34_code 7 none ∈ gw := gw_of (tm_4 (List.mem_of_getElem? (i := 215) rfl)) rfl
theorem kw_936 : Cond.methodLink "TextForgeLaw" 89 ⟨"TextForgeModel", "join", "(Z)I"⟩ ∈ gw := gw_of (tm_4 (List.mem_of_getElem? (i := 216) rfl)) rfl
theorem kw_937 : Cond.instanceMethod ⟨"TextForgeModel", "join", "(Z)I"⟩ ∈ gw := gw_of (tm_4 (List.mem_of_getElem? (i := 217) rfl)) rfl
theorem kw_938 : Cond.selects "TextForgeModel" ⟨"TextForgeModel", "join", "(Z)I"⟩ ⟨"TextForgeModel", "join", "(Z)I"⟩ ∈ gw := gw_of (tm_4 (List.mem_of_getElem? (i := 218) rfl)) rfl
theorem kw_939 : Cond.code ⟨"TextForgeModel", "join", "(Z)I"⟩ prog_12_method_37_code 3 (some .int) ∈ gw := gw_of (tm_4 (List.mem_of_getElem? (i := 219) rfl)) rfl
theorem kw_940 : Cond.methodLink "TextForgeModel" 199 ⟨"TextForgeModel", "giveParts", "()V"⟩ ∈ gw := gw_of (tm_4 (List.mem_of_getElem? (i := 220) rfl)) rfl
theorem tw_941 : Cond.privateMethod ⟨"TextForgeModel", "giveParts", "()V"⟩ ∈ lw_tbl := List.mem_append_right _ (tm_4 (List.mem_of_getElem? (i := 221) rfl))
theorem kw_942 : Cond.instanceMethod ⟨"TextForgeModel", "giveParts", "()V"⟩ ∈ gw := gw_of (tm_4 (List.mem_of_getElem? (i := 222) rfl)) rfl
theorem kw_943 : Cond.code ⟨"TextForgeModel", "giveParts", "()V"⟩ prog_12_method_36_code 2 none ∈ gw := gw_of (tm_4 (List.mem_of_getElem? (i := 223) rfl)) rfl
theorem kw_944 : Cond.methodLink "TextForgeLaw" 93 ⟨"TextForgeModel", "quote", "()I"⟩ ∈ gw := gw_of (tm_4 (List.mem_of_getElem? (i := 224) rfl)) rfl
theorem kw_945 : Cond.instanceMethod ⟨"TextForgeModel", "quote", "()I"⟩ ∈ gw := gw_of (tm_4 (List.mem_of_getElem? (i := 225) rfl)) rfl
theorem kw_946 : Cond.selects "TextForgeModel" ⟨"TextForgeModel", "quote", "()I"⟩ ⟨"TextForgeModel", "quote", "()I"⟩ ∈ gw := gw_of (tm_4 (List.mem_of_getElem? (i := 226) rfl)) rfl
theorem kw_947 : Cond.code ⟨"TextForgeModel", "quote", "()I"⟩ prog_12_method_38_code 1 (some .int) ∈ gw := gw_of (tm_4 (List.mem_of_getElem? (i := 227) rfl)) rfl
theorem kw_948 : Cond.methodLink "TextForgeLaw" 105 ⟨"TextForgeModel", "encode", "(I)I"⟩ ∈ gw := gw_of (tm_4 (List.mem_of_getElem? (i := 228) rfl)) rfl
theorem kw_949 : Cond.instanceMethod ⟨"TextForgeModel", "encode", "(I)I"⟩ ∈ gw := gw_of (tm_4 (List.mem_of_getElem? (i := 229) rfl)) rfl
theorem kw_950 : Cond.selects "TextForgeModel" ⟨"TextForgeModel", "encode", "(I)I"⟩ ⟨"TextForgeModel", "encode", "(I)I"⟩ ∈ gw := gw_of (tm_4 (List.mem_of_getElem? (i := 230) rfl)) rfl
theorem kw_951 : Cond.code ⟨"TextForgeModel", "encode", "(I)I"⟩ prog_12_method_39_code 2 (some .int) ∈ gw := gw_of (tm_4 (List.mem_of_getElem? (i := 231) rfl)) rfl
theorem kw_952 : Cond.methodLink "TextForgeLaw" 96 ⟨"TextForgeModel", "parse", "(I)Z"⟩ ∈ gw := gw_of (tm_4 (List.mem_of_getElem? (i := 232) rfl)) rfl
theorem kw_953 : Cond.instanceMethod ⟨"TextForgeModel", "parse", "(I)Z"⟩ ∈ gw := gw_of (tm_4 (List.mem_of_getElem? (i := 233) rfl)) rfl
theorem kw_954 : Cond.selects "TextForgeModel" ⟨"TextForgeModel", "parse", "(I)Z"⟩ ⟨"TextForgeModel", "parse", "(I)Z"⟩ ∈ gw := gw_of (tm_4 (List.mem_of_getElem? (i := 234) rfl)) rfl
theorem kw_955 : Cond.code ⟨"TextForgeModel", "parse", "(I)Z"⟩ prog_12_method_41_code 12 (some .boolean) ∈ gw := gw_of (tm_4 (List.mem_of_getElem? (i := 235) rfl)) rfl
theorem kw_956 : Cond.methodLink "TextForgeModel" 206 ⟨"TextForgeModel", "worth", "(I)I"⟩ ∈ gw := gw_of (tm_4 (List.mem_of_getElem? (i := 236) rfl)) rfl
theorem kw_957 : Cond.static ⟨"TextForgeModel", "worth", "(I)I"⟩ ∈ gw := gw_of (tm_4 (List.mem_of_getElem? (i := 237) rfl)) rfl
theorem kw_958 : Cond.code ⟨"TextForgeModel", "worth", "(I)I"⟩ prog_12_method_40_code 1 (some .int) ∈ gw := gw_of (tm_4 (List.mem_of_getElem? (i := 238) rfl)) rfl
theorem kw_959 : Cond.methodLink "TextForgeLaw" 101 ⟨"TextForgeModel", "parsed", "()J"⟩ ∈ gw := gw_of (tm_4 (List.mem_of_getElem? (i := 239) rfl)) rfl
theorem kw_960 : Cond.instanceMethod ⟨"TextForgeModel", "parsed", "()J"⟩ ∈ gw := gw_of (tm_5 (List.mem_of_getElem? (i := 0) rfl)) rfl
theorem kw_961 : Cond.selects "TextForgeModel" ⟨"TextForgeModel", "parsed", "()J"⟩ ⟨"TextForgeModel", "parsed", "()J"⟩ ∈ gw := gw_of (tm_5 (List.mem_of_getElem? (i := 1) rfl)) rfl
theorem kw_962 : Cond.code ⟨"TextForgeModel", "parsed", "()J"⟩ prog_12_method_42_code 1 (some .long) ∈ gw := gw_of (tm_5 (List.mem_of_getElem? (i := 2) rfl)) rfl
theorem kw_963 : Cond.methodLink "TextForgeLaw" 117 ⟨"TextForgeModel", "size", "()I"⟩ ∈ gw := gw_of (tm_5 (List.mem_of_getElem? (i := 3) rfl)) rfl
theorem kw_964 : Cond.instanceMethod ⟨"TextForgeModel", "size", "()I"⟩ ∈ gw := gw_of (tm_5 (List.mem_of_getElem? (i := 4) rfl)) rfl
theorem kw_965 : Cond.selects "TextForgeModel" ⟨"TextForgeModel", "size", "()I"⟩ ⟨"TextForgeModel", "size", "()I"⟩ ∈ gw := gw_of (tm_5 (List.mem_of_getElem? (i := 5) rfl)) rfl
theorem kw_966 : Cond.code ⟨"TextForgeModel", "size", "()I"⟩ prog_12_method_43_code 1 (some .int) ∈ gw := gw_of (tm_5 (List.mem_of_getElem? (i := 6) rfl)) rfl
theorem kw_967 : Cond.methodLink "TextForgeLaw" 120 ⟨"TextForgeModel", "byteOf", "(I)I"⟩ ∈ gw := gw_of (tm_5 (List.mem_of_getElem? (i := 7) rfl)) rfl
theorem kw_968 : Cond.instanceMethod ⟨"TextForgeModel", "byteOf", "(I)I"⟩ ∈ gw := gw_of (tm_5 (List.mem_of_getElem? (i := 8) rfl)) rfl
theorem kw_969 : Cond.selects "TextForgeModel" ⟨"TextForgeModel", "byteOf", "(I)I"⟩ ⟨"TextForgeModel", "byteOf", "(I)I"⟩ ∈ gw := gw_of (tm_5 (List.mem_of_getElem? (i := 9) rfl)) rfl
theorem kw_970 : Cond.code ⟨"TextForgeModel", "byteOf", "(I)I"⟩ prog_12_method_44_code 2 (some .int) ∈ gw := gw_of (tm_5 (List.mem_of_getElem? (i := 10) rfl)) rfl
theorem kw_971 : Cond.constantLong "TextForgeLaw" 55 (4294967295 : Int64) ∈ gw := gw_of (tm_5 (List.mem_of_getElem? (i := 11) rfl)) rfl
theorem tw_972 : Cond.sameMethod "java/lang/Throwable" "java/lang/Throwable" "fillInStackTrace" "(I)Ljava/lang/Throwable;" ∈ lw_tbl := List.mem_append_right _ (tm_5 (List.mem_of_getElem? (i := 12) rfl))
theorem kw_973 : Cond.fieldLink "java/lang/String" 9 "java/lang/String" "value" "[B" ∈ gw := gw_of (tm_5 (List.mem_of_getElem? (i := 13) rfl)) rfl
theorem kw_974 : Cond.fieldLink "java/lang/String" 15 "java/lang/String" "coder" "B" ∈ gw := gw_of (tm_5 (List.mem_of_getElem? (i := 14) rfl)) rfl
