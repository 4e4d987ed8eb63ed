theorem q1 : (.selects RX3 yX3_isCollection yX3_isCollection : Cond) ∈ wsA := inA (k := 1) (by decide +kernel) rfl
theorem q2 : (.selects RX3 yX3_kindAt yX3_kindAt : Cond) ∈ wsA := inA (k := 2) (by decide +kernel) rfl
theorem q3 : (.selects RX3 yX3_find yX3_find : Cond) ∈ wsA := inA (k := 3) (by decide +kernel) rfl
theorem q4 : (.selects RX3 yX3_indexOf yX3_indexOf : Cond) ∈ wsA := inA (k := 4) (by decide +kernel) rfl
theorem q5 : (.selects RX4 yX4_allowsWithParent yX4_allowsWithParent : Cond) ∈ wsA := inA (k := 5) (by decide +kernel) rfl
theorem q6 : (.selects RX1 yX1_allows yX1_allows : Cond) ∈ wsA := inA (k := 6) (by decide +kernel) rfl
theorem q7 : (.selects RX1 yX1_tokensOver yX1_tokensOver : Cond) ∈ wsA := inA (k := 7) (by decide +kernel) rfl
theorem q8 : (.selects RX1 yX1_find yX1_find : Cond) ∈ wsA := inA (k := 8) (by decide +kernel) rfl
theorem q9 : (.selects RX0 yX0_covers yX0_covers : Cond) ∈ wsA := inA (k := 9) (by decide +kernel) rfl
theorem q10 : (.selects RX3 yX3_append yX3_append : Cond) ∈ wsA := inA (k := 10) (by decide +kernel) rfl
theorem q11 : (.selects RX2 yX2_begin yX2_begin : Cond) ∈ wsA := inA (k := 11) (by decide +kernel) rfl
theorem q12 : (.selects RX4 yX4_outcomeOfWriting yX4_outcomeOfWriting : Cond) ∈ wsA := inA (k := 12) (by decide +kernel) rfl
theorem q13 : (.selects RX3 yX3_findFile yX3_findFile : Cond) ∈ wsA := inA (k := 13) (by decide +kernel) rfl
theorem q14 : (.selects RX4 yX4_write yX4_write : Cond) ∈ wsA := inA (k := 14) (by decide +kernel) rfl
theorem q15 : (.selects RX4 yX4_noteFailures yX4_noteFailures : Cond) ∈ wsA := inA (k := 15) (by decide +kernel) rfl
theorem q16 : (.selects RX3 yX3_pathAt yX3_pathAt : Cond) ∈ wsA := inA (k := 16) (by decide +kernel) rfl
theorem q17 : (.selects RX4 yX4_insertFailure yX4_insertFailure : Cond) ∈ wsA := inA (k := 17) (by decide +kernel) rfl
theorem q18 : (.selects RX3 yX3_markTree yX3_markTree : Cond) ∈ wsA := inA (k := 18) (by decide +kernel) rfl
theorem q19 : (.selects RX4 yX4_spareFailures yX4_spareFailures : Cond) ∈ wsA := inA (k := 19) (by decide +kernel) rfl
theorem q20 : (.selects RX3 yX3_spareUpFrom yX3_spareUpFrom : Cond) ∈ wsA := inA (k := 20) (by decide +kernel) rfl
theorem q21 : (.selects RX4 yX4_removeMarked yX4_removeMarked : Cond) ∈ wsA := inA (k := 21) (by decide +kernel) rfl
theorem q22 : (.selects RX3 yX3_isGoingAt yX3_isGoingAt : Cond) ∈ wsA := inA (k := 22) (by decide +kernel) rfl
theorem q23 : (.selects RX1 yX1_dropAt yX1_dropAt : Cond) ∈ wsA := inA (k := 23) (by decide +kernel) rfl
theorem q24 : (.selects RX3 yX3_removeMarked yX3_removeMarked : Cond) ∈ wsA := inA (k := 24) (by decide +kernel) rfl
theorem q25 : (.selects RX4 yX4_outcomeOfTarget yX4_outcomeOfTarget : Cond) ∈ wsA := inA (k := 25) (by decide +kernel) rfl
theorem q26 : (.selects RX3 yX3_fits yX3_fits : Cond) ∈ wsA := inA (k := 26) (by decide +kernel) rfl
theorem q27 : (.selects RX4 yX4_allowsTree yX4_allowsTree : Cond) ∈ wsA := inA (k := 27) (by decide +kernel) rfl
theorem q28 : (.selects RX3 yX3_treeSize yX3_treeSize : Cond) ∈ wsA := inA (k := 28) (by decide +kernel) rfl
theorem q29 : (.selects RX4 yX4_removeTree yX4_removeTree : Cond) ∈ wsA := inA (k := 29) (by decide +kernel) rfl
theorem q30 : (.selects RX3 yX3_appendCopyOfTree yX3_appendCopyOfTree : Cond) ∈ wsA := inA (k := 30) (by decide +kernel) rfl
theorem q31 : (.selects RX4 yX4_dropLocksOfTree yX4_dropLocksOfTree : Cond) ∈ wsA := inA (k := 31) (by decide +kernel) rfl
theorem q32 : (.selects RX3 yX3_renameTree yX3_renameTree : Cond) ∈ wsA := inA (k := 32) (by decide +kernel) rfl
theorem q33 : (.selects RX3 yX3_placeMember yX3_placeMember : Cond) ∈ wsA := inA (k := 33) (by decide +kernel) rfl
theorem q34 : (.selects RX3 yX3_shift yX3_shift : Cond) ∈ wsA := inA (k := 34) (by decide +kernel) rfl
theorem q35 : (.selects RX3 yX3_memberIndex yX3_memberIndex : Cond) ∈ wsA := inA (k := 35) (by decide +kernel) rfl
theorem q36 : (.selects RX3 yX3_memberCount yX3_memberCount : Cond) ∈ wsA := inA (k := 36) (by decide +kernel) rfl
theorem q37 : (.selects RX1 yX1_bar yX1_bar : Cond) ∈ wsA := inA (k := 37) (by decide +kernel) rfl
theorem q38 : (.selects RX1 yX1_add yX1_add : Cond) ∈ wsA := inA (k := 38) (by decide +kernel) rfl
theorem q39 : (.selects RX1 yX1_advance yX1_advance : Cond) ∈ wsA := inA (k := 39) (by decide +kernel) rfl
theorem q40 : (.selects RX2 yX2_addVersion yX2_addVersion : Cond) ∈ wsA := inA (k := 40) (by decide +kernel) rfl
theorem q41 : (.selects RX2 yX2_versionAt yX2_versionAt : Cond) ∈ wsA := inA (k := 41) (by decide +kernel) rfl
theorem q42 : (.selects RX5 yX5_isRight yX5_isRight : Cond) ∈ wsA := inA (k := 42) (by decide +kernel) rfl
theorem q43 : (.selects RX5 yX5_kinds yX5_kinds : Cond) ∈ wsA := inA (k := 43) (by decide +kernel) rfl
theorem q44 : (.selects RX5 yX5_place yX5_place : Cond) ∈ wsA := inA (k := 44) (by decide +kernel) rfl
theorem q45 : (.selects RX5 yX5_mayMake yX5_mayMake : Cond) ∈ wsA := inA (k := 45) (by decide +kernel) rfl
theorem q46 : (.selects RX5 yX5_may yX5_may : Cond) ∈ wsA := inA (k := 46) (by decide +kernel) rfl
theorem q47 : (.selects RX5 yX5_set yX5_set : Cond) ∈ wsA := inA (k := 47) (by decide +kernel) rfl
theorem q48 : (.selects RX5 yX5_covers yX5_covers : Cond) ∈ wsA := inA (k := 48) (by decide +kernel) rfl
theorem q49 : (.selects RX5 yX5_isOn yX5_isOn : Cond) ∈ wsA := inA (k := 49) (by decide +kernel) rfl
theorem q50 : (.selects RX5 yX5_count yX5_count : Cond) ∈ wsA := inA (k := 50) (by decide +kernel) rfl
theorem q51 : (.selects RX5 yX5_makes yX5_makes : Cond) ∈ wsA := inA (k := 51) (by decide +kernel) rfl
theorem q52 : (.selects RX5 yX5_puts yX5_puts : Cond) ∈ wsA := inA (k := 52) (by decide +kernel) rfl
theorem q53 : (.selects RX5 yX5_isOf yX5_isOf : Cond) ∈ wsA := inA (k := 53) (by decide +kernel) rfl
theorem q54 : (.selects RX5 yX5_goes yX5_goes : Cond) ∈ wsA := inA (k := 54) (by decide +kernel) rfl
theorem q55 : (.selects RX5 yX5_brings yX5_brings : Cond) ∈ wsA := inA (k := 55) (by decide +kernel) rfl
theorem q56 : (.selects RX5 yX5_mayAll yX5_mayAll : Cond) ∈ wsA := inA (k := 56) (by decide +kernel) rfl
theorem q57 : (.selects RX5 yX5_carries yX5_carries : Cond) ∈ wsA := inA (k := 57) (by decide +kernel) rfl
theorem q58 : (.selects RX5 yX5_lowest yX5_lowest : Cond) ∈ wsA := inA (k := 58) (by decide +kernel) rfl
theorem q59 : (.selects RX5 yX5_asks yX5_asks : Cond) ∈ wsA := inA (k := 59) (by decide +kernel) rfl
theorem q60 : (.selects RX5 yX5_membersOf yX5_membersOf : Cond) ∈ wsA := inA (k := 60) (by decide +kernel) rfl
theorem q61 : (.selects RX5 yX5_isMember yX5_isMember : Cond) ∈ wsA := inA (k := 61) (by decide +kernel) rfl
theorem q62 : (.selects RX5 yX5_memberOf yX5_memberOf : Cond) ∈ wsA := inA (k := 62) (by decide +kernel) rfl
theorem q63 : (.selects RX5 yX5_clashes yX5_clashes : Cond) ∈ wsA := inA (k := 63) (by decide +kernel) rfl
theorem q64 : (.initialized RL : Cond) ∈ wsA := inA (k := 64) (by decide +kernel) rfl
theorem q65 : (.initialized RX4 : Cond) ∈ wsA := inA (k := 65) (by decide +kernel) rfl
theorem q66 : (.initialized RX3 : Cond) ∈ wsA := inA (k := 66) (by decide +kernel) rfl
theorem q67 : (.initialized RX2 : Cond) ∈ wsA := inA (k := 67) (by decide +kernel) rfl
theorem q68 : (.initialized RX1 : Cond) ∈ wsA := inA (k := 68) (by decide +kernel) rfl
theorem q69 : (.initialized RX0 : Cond) ∈ wsA := inA (k := 69) (by decide +kernel) rfl
theorem q70 : (.initialized RX5 : Cond) ∈ wsA := inA (k := 70) (by decide +kernel) rfl
theorem q74 : (.initialized "java/lang/IllegalArgumentException" : Cond) ∈ wsA := inA (k := 74) (by decide +kernel) rfl
theorem q75 : (.initialized "java/lang/IndexOutOfBoundsException" : Cond) ∈ wsA := inA (k := 75) (by decide +kernel) rfl
theorem q76 : (.initialized "java/lang/IllegalStateException" : Cond) ∈ wsA := inA (k := 76) (by decide +kernel) rfl
theorem q77 : (.classLink RL 8 RX4 : Cond) ∈ wsA := inA (k := 77) (by decide +kernel) rfl
theorem q78 : (.instantiable RX4 4 : Cond) ∈ wsA := inA (k := 78) (by decide +kernel) rfl
theorem q79 : (.methodLink RL 77 yX4_init : Cond) ∈ wsA := inA (k := 79) (by decide +kernel) rfl
theorem q80 : (.instanceMethod yX4_init : Cond) ∈ wsA := inA (k := 80) (by decide +kernel) rfl
theorem q81 : (.code yX4_init cX4_init 1 (none : Option Jvm.ClassFile.FieldType) : Cond) ∈ wsA := inA (k := 81) (by decide +kernel) rfl
theorem q82 : (.methodLink RX4 1 objectInit : Cond) ∈ wsA := inA (k := 82) (by decide +kernel) rfl
theorem q83 : (.instanceMethod objectInit : Cond) ∈ wsA := inA (k := 83) (by decide +kernel) rfl
theorem q84 : (.code objectInit object_method_1_code 1 (none : Option Jvm.ClassFile.FieldType) : Cond) ∈ wsA := inA (k := 84) (by decide +kernel) rfl
theorem q85 : (.classLink RX4 7 RX3 : Cond) ∈ wsA := inA (k := 85) (by decide +kernel) rfl
theorem q86 : (.instantiable RX3 2 : Cond) ∈ wsA := inA (k := 86) (by decide +kernel) rfl
theorem q88 : (.instanceMethod yX3_init : Cond) ∈ wsA := inA (k := 88) (by decide +kernel) rfl
theorem q89 : (.code yX3_init cX3_init 2 (none : Option Jvm.ClassFile.FieldType) : Cond) ∈ wsA := inA (k := 89) (by decide +kernel) rfl
theorem q90 : (.methodLink RX3 3 objectInit : Cond) ∈ wsA := inA (k := 90) (by decide +kernel) rfl
theorem q91 : (.classLink RX3 9 RX2 : Cond) ∈ wsA := inA (k := 91) (by decide +kernel) rfl
theorem q93 : (.instantiable RX2 6 : Cond) ∈ wsA := inA (k := 93) (by decide +kernel) rfl
theorem q95 : (.instanceMethod yX2_init : Cond) ∈ wsA := inA (k := 95) (by decide +kernel) rfl
theorem q96 : (.code yX2_init cX2_init 1 (none : Option Jvm.ClassFile.FieldType) : Cond) ∈ wsA := inA (k := 96) (by decide +kernel) rfl
theorem q97 : (.methodLink RX2 3 objectInit : Cond) ∈ wsA := inA (k := 97) (by decide +kernel) rfl
theorem q98 : (.fieldLink RX2 15 "ShelfServer$Resource" "path" "I" : Cond) ∈ wsA := inA (k := 98) (by decide +kernel) rfl
theorem q100 : (.fieldLink RX2 19 "ShelfServer$Resource" "kind" "I" : Cond) ∈ wsA := inA (k := 100) (by decide +kernel) rfl
theorem q102 : (.fieldLink RX2 22 "ShelfServer$Resource" "content" "I" : Cond) ∈ wsA := inA (k := 102) (by decide +kernel) rfl
theorem q105 : (.fieldLink RX2 25 "ShelfServer$Resource" "isGoing" "Z" : Cond) ∈ wsA := inA (k := 105) (by decide +kernel) rfl
theorem q107 : (.fieldLink RX2 9 "ShelfServer$Resource" "versions" "[I" : Cond) ∈ wsA := inA (k := 107) (by decide +kernel) rfl
theorem q108 : (.fieldLink RX2 29 "ShelfServer$Resource" "versionCount" "I" : Cond) ∈ wsA := inA (k := 108) (by decide +kernel) rfl
theorem q123 : (.arrayClass .int : Cond) ∈ wsA := inA (k := 123) (by decide +kernel) rfl
theorem q124 : (.fieldLink RX3 11 "ShelfServer$Shelf" "row" "[LShelfServer$Resource;" : Cond) ∈ wsA := inA (k := 124) (by decide +kernel) rfl
theorem q125 : (.fieldLink RX3 18 "ShelfServer$Shelf" "count" "I" : Cond) ∈ wsA := inA (k := 125) (by decide +kernel) rfl
theorem q132 : (.classLink RX4 16 RX1 : Cond) ∈ wsA := inA (k := 132) (by decide +kernel) rfl
theorem q133 : (.instantiable RX1 3 : Cond) ∈ wsA := inA (k := 133) (by decide +kernel) rfl
theorem q135 : (.instanceMethod yX1_init : Cond) ∈ wsA := inA (k := 135) (by decide +kernel) rfl
theorem q136 : (.code yX1_init cX1_init 2 (none : Option Jvm.ClassFile.FieldType) : Cond) ∈ wsA := inA (k := 136) (by decide +kernel) rfl
theorem q137 : (.methodLink RX1 3 objectInit : Cond) ∈ wsA := inA (k := 137) (by decide +kernel) rfl
theorem q138 : (.classLink RX1 9 RX0 : Cond) ∈ wsA := inA (k := 138) (by decide +kernel) rfl
theorem q140 : (.instantiable RX0 5 : Cond) ∈ wsA := inA (k := 140) (by decide +kernel) rfl
theorem q142 : (.instanceMethod yX0_init : Cond) ∈ wsA := inA (k := 142) (by decide +kernel) rfl
theorem q143 : (.code yX0_init cX0_init 1 (none : Option Jvm.ClassFile.FieldType) : Cond) ∈ wsA := inA (k := 143) (by decide +kernel) rfl
theorem q144 : (.methodLink RX0 1 objectInit : Cond) ∈ wsA := inA (k := 144) (by decide +kernel) rfl
theorem q147 : (.fieldLink RX0 7 "ShelfServer$Lock" "path" "I" : Cond) ∈ wsA := inA (k := 147) (by decide +kernel) rfl
theorem q150 : (.fieldLink RX0 13 "ShelfServer$Lock" "isDeep" "Z" : Cond) ∈ wsA := inA (k := 150) (by decide +kernel) rfl
theorem q165 : (.fieldLink RX1 11 "ShelfServer$Locks" "row" "[LShelfServer$Lock;" : Cond) ∈ wsA := inA (k := 165) (by decide +kernel) rfl
theorem q166 : (.fieldLink RX1 18 "ShelfServer$Locks" "count" "I" : Cond) ∈ wsA := inA (k := 166) (by decide +kernel) rfl
theorem q168 : (.fieldLink RX1 22 "ShelfServer$Locks" "now" "I" : Cond) ∈ wsA := inA (k := 168) (by decide +kernel) rfl
theorem q177 : (.fieldLink RX4 10 "ShelfServer" "shelf" "LShelfServer$Shelf;" : Cond) ∈ wsA := inA (k := 177) (by decide +kernel) rfl
theorem q178 : (.fieldLink RX4 19 "ShelfServer" "locks" "LShelfServer$Locks;" : Cond) ∈ wsA := inA (k := 178) (by decide +kernel) rfl
theorem q179 : (.fieldLink RX4 23 "ShelfServer" "failed" "[I" : Cond) ∈ wsA := inA (k := 179) (by decide +kernel) rfl
theorem q180 : (.fieldLink RX4 27 "ShelfServer" "failedCount" "I" : Cond) ∈ wsA := inA (k := 180) (by decide +kernel) rfl
theorem q190 : (.methodLink RL 98 yX4_failures : Cond) ∈ wsA := inA (k := 190) (by decide +kernel) rfl
theorem q191 : (.instanceMethod yX4_failures : Cond) ∈ wsA := inA (k := 191) (by decide +kernel) rfl
theorem q192 : (.selects RX4 yX4_failures yX4_failures : Cond) ∈ wsA := inA (k := 192) (by decide +kernel) rfl
theorem q193 : (.code yX4_failures cX4_failures 1 (some .int) : Cond) ∈ wsA := inA (k := 193) (by decide +kernel) rfl
theorem q194 : (.methodLink RL 119 yX4_resources : Cond) ∈ wsA := inA (k := 194) (by decide +kernel) rfl
theorem q195 : (.instanceMethod yX4_resources : Cond) ∈ wsA := inA (k := 195) (by decide +kernel) rfl
theorem q196 : (.selects RX4 yX4_resources yX4_resources : Cond) ∈ wsA := inA (k := 196) (by decide +kernel) rfl
theorem q197 : (.code yX4_resources cX4_resources 1 (some .int) : Cond) ∈ wsA := inA (k := 197) (by decide +kernel) rfl
theorem q198 : (.methodLink RL 81 yL_makeCollection : Cond) ∈ wsA := inA (k := 198) (by decide +kernel) rfl
theorem q199 : (.static yL_makeCollection : Cond) ∈ wsA := inA (k := 199) (by decide +kernel) rfl
theorem q200 : (.codeWith yL_makeCollection cL_makeCollection 6 (some .int) [(0, 12, 15, 13)] : Cond) ∈ wsA := inA (k := 200) (by decide +kernel) rfl
theorem q201 : (.classLink RL 13 "java/lang/IllegalArgumentException" : Cond) ∈ wsA := inA (k := 201) (by decide +kernel) rfl
theorem q202 : (.methodLink RL 7 yX4_makeCollection : Cond) ∈ wsA := inA (k := 202) (by decide +kernel) rfl
theorem q203 : (.instanceMethod yX4_makeCollection : Cond) ∈ wsA := inA (k := 203) (by decide +kernel) rfl
theorem q204 : (.selects RX4 yX4_makeCollection yX4_makeCollection : Cond) ∈ wsA := inA (k := 204) (by decide +kernel) rfl
theorem q205 : (.code yX4_makeCollection cX4_makeCollection 4 (some .int) : Cond) ∈ wsA := inA (k := 205) (by decide +kernel) rfl
theorem q206 : (.methodLink RX4 31 yX4_requireClient : Cond) ∈ wsA := inA (k := 206) (by decide +kernel) rfl
theorem q207 : (.static yX4_requireClient : Cond) ∈ wsA := inA (k := 207) (by decide +kernel) rfl
theorem q208 : (.code yX4_requireClient cX4_requireClient 1 (none : Option Jvm.ClassFile.FieldType) : Cond) ∈ wsA := inA (k := 208) (by decide +kernel) rfl
theorem q209 : (.methodLink RX4 64 yX4_requireRange : Cond) ∈ wsA := inA (k := 209) (by decide +kernel) rfl
theorem q210 : (.static yX4_requireRange : Cond) ∈ wsA := inA (k := 210) (by decide +kernel) rfl
theorem q211 : (.code yX4_requireRange cX4_requireRange 3 (none : Option Jvm.ClassFile.FieldType) : Cond) ∈ wsA := inA (k := 211) (by decide +kernel) rfl
theorem q212 : (.classLink RX4 211 "java/lang/IllegalArgumentException" : Cond) ∈ wsA := inA (k := 212) (by decide +kernel) rfl
theorem q213 : (.instantiable "java/lang/IllegalArgumentException" 6 : Cond) ∈ wsA := inA (k := 213) (by decide +kernel) rfl
theorem q237 : (.methodLink "java/lang/Throwable" 1 objectInit : Cond) ∈ wsA := inA (k := 237) (by decide +kernel) rfl
theorem q279 : (.arrayClass .byte : Cond) ∈ wsA := inA (k := 279) (by decide +kernel) rfl
theorem q280 : (.methodLink RX4 35 yX4_requirePathBelowTop : Cond) ∈ wsA := inA (k := 280) (by decide +kernel) rfl
theorem q281 : (.static yX4_requirePathBelowTop : Cond) ∈ wsA := inA (k := 281) (by decide +kernel) rfl
theorem q282 : (.code yX4_requirePathBelowTop cX4_requirePathBelowTop 1 (none : Option Jvm.ClassFile.FieldType) : Cond) ∈ wsA := inA (k := 282) (by decide +kernel) rfl
theorem q283 : (.methodLink RX4 123 yX4_requirePath : Cond) ∈ wsA := inA (k := 283) (by decide +kernel) rfl
theorem q284 : (.static yX4_requirePath : Cond) ∈ wsA := inA (k := 284) (by decide +kernel) rfl
theorem q285 : (.code yX4_requirePath cX4_requirePath 1 (none : Option Jvm.ClassFile.FieldType) : Cond) ∈ wsA := inA (k := 285) (by decide +kernel) rfl
theorem q286 : (.methodLink RX4 218 yX4_isPath : Cond) ∈ wsA := inA (k := 286) (by decide +kernel) rfl
theorem q287 : (.static yX4_isPath : Cond) ∈ wsA := inA (k := 287) (by decide +kernel) rfl
theorem q288 : (.code yX4_isPath cX4_isPath 3 (some .boolean) : Cond) ∈ wsA := inA (k := 288) (by decide +kernel) rfl
theorem q291 : (.methodLink RX4 38 yX4_requireNotNegative : Cond) ∈ wsA := inA (k := 291) (by decide +kernel) rfl
theorem q292 : (.static yX4_requireNotNegative : Cond) ∈ wsA := inA (k := 292) (by decide +kernel) rfl
theorem q293 : (.code yX4_requireNotNegative cX4_requireNotNegative 1 (none : Option Jvm.ClassFile.FieldType) : Cond) ∈ wsA := inA (k := 293) (by decide +kernel) rfl
theorem q295 : (.methodLink RX4 41 yX4_parentOf : Cond) ∈ wsA := inA (k := 295) (by decide +kernel) rfl
theorem q296 : (.static yX4_parentOf : Cond) ∈ wsA := inA (k := 296) (by decide +kernel) rfl
theorem q297 : (.code yX4_parentOf cX4_parentOf 1 (some .int) : Cond) ∈ wsA := inA (k := 297) (by decide +kernel) rfl
theorem q300 : (.instanceMethod yX3_isCollection : Cond) ∈ wsA := inA (k := 300) (by decide +kernel) rfl
theorem q301 : (.code yX3_isCollection cX3_isCollection 2 (some .boolean) : Cond) ∈ wsA := inA (k := 301) (by decide +kernel) rfl
theorem q302 : (.methodLink RX3 40 yX3_kindAt : Cond) ∈ wsA := inA (k := 302) (by decide +kernel) rfl
theorem q304 : (.instanceMethod yX3_kindAt : Cond) ∈ wsA := inA (k := 304) (by decide +kernel) rfl
theorem q305 : (.code yX3_kindAt cX3_kindAt 3 (some .int) : Cond) ∈ wsA := inA (k := 305) (by decide +kernel) rfl
theorem q306 : (.methodLink RX3 33 yX3_find : Cond) ∈ wsA := inA (k := 306) (by decide +kernel) rfl
theorem q308 : (.instanceMethod yX3_find : Cond) ∈ wsA := inA (k := 308) (by decide +kernel) rfl
theorem q309 : (.code yX3_find cX3_find 3 (some (.object "ShelfServer$Resource")) : Cond) ∈ wsA := inA (k := 309) (by decide +kernel) rfl
theorem q310 : (.methodLink RX3 25 yX3_indexOf : Cond) ∈ wsA := inA (k := 310) (by decide +kernel) rfl
theorem q312 : (.instanceMethod yX3_indexOf : Cond) ∈ wsA := inA (k := 312) (by decide +kernel) rfl
theorem q313 : (.code yX3_indexOf cX3_indexOf 3 (some .int) : Cond) ∈ wsA := inA (k := 313) (by decide +kernel) rfl
theorem q315 : (.methodLink RX4 53 yX4_allowsWithParent : Cond) ∈ wsA := inA (k := 315) (by decide +kernel) rfl
theorem q317 : (.instanceMethod yX4_allowsWithParent : Cond) ∈ wsA := inA (k := 317) (by decide +kernel) rfl
theorem q318 : (.code yX4_allowsWithParent cX4_allowsWithParent 4 (some .boolean) : Cond) ∈ wsA := inA (k := 318) (by decide +kernel) rfl
theorem q321 : (.instanceMethod yX1_allows : Cond) ∈ wsA := inA (k := 321) (by decide +kernel) rfl
theorem q322 : (.code yX1_allows cX1_allows 8 (some .boolean) : Cond) ∈ wsA := inA (k := 322) (by decide +kernel) rfl
theorem q323 : (.methodLink RX1 36 yX1_tokensOver : Cond) ∈ wsA := inA (k := 323) (by decide +kernel) rfl
theorem q325 : (.instanceMethod yX1_tokensOver : Cond) ∈ wsA := inA (k := 325) (by decide +kernel) rfl
theorem q326 : (.code yX1_tokensOver cX1_tokensOver 5 (some .int) : Cond) ∈ wsA := inA (k := 326) (by decide +kernel) rfl
theorem q327 : (.methodLink RX1 28 yX1_find : Cond) ∈ wsA := inA (k := 327) (by decide +kernel) rfl
theorem q329 : (.instanceMethod yX1_find : Cond) ∈ wsA := inA (k := 329) (by decide +kernel) rfl
theorem q330 : (.code yX1_find cX1_find 2 (some (.object "ShelfServer$Lock")) : Cond) ∈ wsA := inA (k := 330) (by decide +kernel) rfl
theorem q333 : (.instanceMethod yX0_covers : Cond) ∈ wsA := inA (k := 333) (by decide +kernel) rfl
theorem q334 : (.code yX0_covers cX0_covers 2 (some .boolean) : Cond) ∈ wsA := inA (k := 334) (by decide +kernel) rfl
theorem q336 : (.static yX4_isAbove : Cond) ∈ wsA := inA (k := 336) (by decide +kernel) rfl
theorem q337 : (.code yX4_isAbove cX4_isAbove 4 (some .boolean) : Cond) ∈ wsA := inA (k := 337) (by decide +kernel) rfl
theorem q340 : (.instanceMethod yX3_append : Cond) ∈ wsA := inA (k := 340) (by decide +kernel) rfl
theorem q341 : (.code yX3_append cX3_append 4 (none : Option Jvm.ClassFile.FieldType) : Cond) ∈ wsA := inA (k := 341) (by decide +kernel) rfl
theorem q344 : (.instanceMethod yX2_begin : Cond) ∈ wsA := inA (k := 344) (by decide +kernel) rfl
theorem q345 : (.code yX2_begin cX2_begin 4 (none : Option Jvm.ClassFile.FieldType) : Cond) ∈ wsA := inA (k := 345) (by decide +kernel) rfl
theorem q346 : (.methodLink RL 91 yL_put : Cond) ∈ wsA := inA (k := 346) (by decide +kernel) rfl
theorem q347 : (.static yL_put : Cond) ∈ wsA := inA (k := 347) (by decide +kernel) rfl
theorem q348 : (.codeWith yL_put cL_put 8 (some .int) [(0, 16, 19, 13)] : Cond) ∈ wsA := inA (k := 348) (by decide +kernel) rfl
theorem q349 : (.methodLink RL 15 yX4_put : Cond) ∈ wsA := inA (k := 349) (by decide +kernel) rfl
theorem q350 : (.instanceMethod yX4_put : Cond) ∈ wsA := inA (k := 350) (by decide +kernel) rfl
theorem q351 : (.selects RX4 yX4_put yX4_put : Cond) ∈ wsA := inA (k := 351) (by decide +kernel) rfl
theorem q352 : (.code yX4_put cX4_put 7 (some .int) : Cond) ∈ wsA := inA (k := 352) (by decide +kernel) rfl
theorem q353 : (.methodLink RX4 67 yX4_outcomeOfWriting : Cond) ∈ wsA := inA (k := 353) (by decide +kernel) rfl
theorem q355 : (.instanceMethod yX4_outcomeOfWriting : Cond) ∈ wsA := inA (k := 355) (by decide +kernel) rfl
theorem q356 : (.code yX4_outcomeOfWriting cX4_outcomeOfWriting 6 (some .int) : Cond) ∈ wsA := inA (k := 356) (by decide +kernel) rfl
theorem q359 : (.instanceMethod yX3_findFile : Cond) ∈ wsA := inA (k := 359) (by decide +kernel) rfl
theorem q360 : (.code yX3_findFile cX3_findFile 3 (some (.object "ShelfServer$Resource")) : Cond) ∈ wsA := inA (k := 360) (by decide +kernel) rfl
theorem q361 : (.methodLink RX4 71 yX4_write : Cond) ∈ wsA := inA (k := 361) (by decide +kernel) rfl
theorem q363 : (.instanceMethod yX4_write : Cond) ∈ wsA := inA (k := 363) (by decide +kernel) rfl
theorem q364 : (.code yX4_write cX4_write 4 (none : Option Jvm.ClassFile.FieldType) : Cond) ∈ wsA := inA (k := 364) (by decide +kernel) rfl
theorem q365 : (.methodLink RL 95 yL_delete : Cond) ∈ wsA := inA (k := 365) (by decide +kernel) rfl
theorem q366 : (.static yL_delete : Cond) ∈ wsA := inA (k := 366) (by decide +kernel) rfl
theorem q367 : (.codeWith yL_delete cL_delete 6 (some .int) [(0, 12, 15, 13)] : Cond) ∈ wsA := inA (k := 367) (by decide +kernel) rfl
theorem q368 : (.methodLink RL 19 yX4_delete : Cond) ∈ wsA := inA (k := 368) (by decide +kernel) rfl
theorem q369 : (.instanceMethod yX4_delete : Cond) ∈ wsA := inA (k := 369) (by decide +kernel) rfl
theorem q370 : (.selects RX4 yX4_delete yX4_delete : Cond) ∈ wsA := inA (k := 370) (by decide +kernel) rfl
theorem q371 : (.code yX4_delete cX4_delete 4 (some .int) : Cond) ∈ wsA := inA (k := 371) (by decide +kernel) rfl
theorem q372 : (.methodLink RX4 75 yX4_noteFailures : Cond) ∈ wsA := inA (k := 372) (by decide +kernel) rfl
theorem q374 : (.instanceMethod yX4_noteFailures : Cond) ∈ wsA := inA (k := 374) (by decide +kernel) rfl
theorem q375 : (.code yX4_noteFailures cX4_noteFailures 6 (none : Option Jvm.ClassFile.FieldType) : Cond) ∈ wsA := inA (k := 375) (by decide +kernel) rfl
theorem q378 : (.instanceMethod yX3_pathAt : Cond) ∈ wsA := inA (k := 378) (by decide +kernel) rfl
theorem q379 : (.code yX3_pathAt cX3_pathAt 2 (some .int) : Cond) ∈ wsA := inA (k := 379) (by decide +kernel) rfl
theorem q380 : (.methodLink RX4 231 yX4_isAbove : Cond) ∈ wsA := inA (k := 380) (by decide +kernel) rfl
theorem q381 : (.methodLink RX4 237 yX4_insertFailure : Cond) ∈ wsA := inA (k := 381) (by decide +kernel) rfl
theorem q383 : (.instanceMethod yX4_insertFailure : Cond) ∈ wsA := inA (k := 383) (by decide +kernel) rfl
theorem q384 : (.code yX4_insertFailure cX4_insertFailure 3 (none : Option Jvm.ClassFile.FieldType) : Cond) ∈ wsA := inA (k := 384) (by decide +kernel) rfl
theorem q387 : (.instanceMethod yX3_markTree : Cond) ∈ wsA := inA (k := 387) (by decide +kernel) rfl
theorem q388 : (.code yX3_markTree cX3_markTree 3 (none : Option Jvm.ClassFile.FieldType) : Cond) ∈ wsA := inA (k := 388) (by decide +kernel) rfl
theorem q390 : (.static yX4_isIn : Cond) ∈ wsA := inA (k := 390) (by decide +kernel) rfl
theorem q391 : (.code yX4_isIn cX4_isIn 2 (some .boolean) : Cond) ∈ wsA := inA (k := 391) (by decide +kernel) rfl
theorem q392 : (.methodLink RX4 81 yX4_spareFailures : Cond) ∈ wsA := inA (k := 392) (by decide +kernel) rfl
theorem q394 : (.instanceMethod yX4_spareFailures : Cond) ∈ wsA := inA (k := 394) (by decide +kernel) rfl
theorem q395 : (.code yX4_spareFailures cX4_spareFailures 2 (none : Option Jvm.ClassFile.FieldType) : Cond) ∈ wsA := inA (k := 395) (by decide +kernel) rfl
theorem q398 : (.instanceMethod yX3_spareUpFrom : Cond) ∈ wsA := inA (k := 398) (by decide +kernel) rfl
theorem q399 : (.code yX3_spareUpFrom cX3_spareUpFrom 3 (none : Option Jvm.ClassFile.FieldType) : Cond) ∈ wsA := inA (k := 399) (by decide +kernel) rfl
theorem q400 : (.methodLink RX4 84 yX4_removeMarked : Cond) ∈ wsA := inA (k := 400) (by decide +kernel) rfl
theorem q402 : (.instanceMethod yX4_removeMarked : Cond) ∈ wsA := inA (k := 402) (by decide +kernel) rfl
theorem q403 : (.code yX4_removeMarked cX4_removeMarked 2 (none : Option Jvm.ClassFile.FieldType) : Cond) ∈ wsA := inA (k := 403) (by decide +kernel) rfl
theorem q406 : (.instanceMethod yX3_isGoingAt : Cond) ∈ wsA := inA (k := 406) (by decide +kernel) rfl
theorem q407 : (.code yX3_isGoingAt cX3_isGoingAt 2 (some .boolean) : Cond) ∈ wsA := inA (k := 407) (by decide +kernel) rfl
theorem q410 : (.instanceMethod yX1_dropAt : Cond) ∈ wsA := inA (k := 410) (by decide +kernel) rfl
theorem q411 : (.code yX1_dropAt cX1_dropAt 4 (none : Option Jvm.ClassFile.FieldType) : Cond) ∈ wsA := inA (k := 411) (by decide +kernel) rfl
theorem q414 : (.instanceMethod yX3_removeMarked : Cond) ∈ wsA := inA (k := 414) (by decide +kernel) rfl
theorem q415 : (.code yX3_removeMarked cX3_removeMarked 4 (none : Option Jvm.ClassFile.FieldType) : Cond) ∈ wsA := inA (k := 415) (by decide +kernel) rfl
theorem q416 : (.methodLink RL 102 yL_failureAt : Cond) ∈ wsA := inA (k := 416) (by decide +kernel) rfl
theorem q417 : (.static yL_failureAt : Cond) ∈ wsA := inA (k := 417) (by decide +kernel) rfl
theorem q418 : (.codeWith yL_failureAt cL_failureAt 4 (some .int) [(0, 9, 12, 26)] : Cond) ∈ wsA := inA (k := 418) (by decide +kernel) rfl
theorem q419 : (.classLink RL 26 "java/lang/IndexOutOfBoundsException" : Cond) ∈ wsA := inA (k := 419) (by decide +kernel) rfl
theorem q420 : (.methodLink RL 22 yX4_failureAt : Cond) ∈ wsA := inA (k := 420) (by decide +kernel) rfl
theorem q421 : (.instanceMethod yX4_failureAt : Cond) ∈ wsA := inA (k := 421) (by decide +kernel) rfl
theorem q422 : (.selects RX4 yX4_failureAt yX4_failureAt : Cond) ∈ wsA := inA (k := 422) (by decide +kernel) rfl
theorem q423 : (.code yX4_failureAt cX4_failureAt 2 (some .int) : Cond) ∈ wsA := inA (k := 423) (by decide +kernel) rfl
theorem q424 : (.classLink RX4 87 "java/lang/IndexOutOfBoundsException" : Cond) ∈ wsA := inA (k := 424) (by decide +kernel) rfl
theorem q425 : (.instantiable "java/lang/IndexOutOfBoundsException" 6 : Cond) ∈ wsA := inA (k := 425) (by decide +kernel) rfl
theorem q440 : (.methodLink RL 106 yL_copy : Cond) ∈ wsA := inA (k := 440) (by decide +kernel) rfl
theorem q441 : (.static yL_copy : Cond) ∈ wsA := inA (k := 441) (by decide +kernel) rfl
theorem q442 : (.codeWith yL_copy cL_copy 8 (some .int) [(0, 16, 19, 13)] : Cond) ∈ wsA := inA (k := 442) (by decide +kernel) rfl
theorem q443 : (.methodLink RL 28 yX4_copy : Cond) ∈ wsA := inA (k := 443) (by decide +kernel) rfl
theorem q444 : (.instanceMethod yX4_copy : Cond) ∈ wsA := inA (k := 444) (by decide +kernel) rfl
theorem q445 : (.selects RX4 yX4_copy yX4_copy : Cond) ∈ wsA := inA (k := 445) (by decide +kernel) rfl
theorem q446 : (.code yX4_copy cX4_copy 7 (some .int) : Cond) ∈ wsA := inA (k := 446) (by decide +kernel) rfl
theorem q447 : (.methodLink RX4 94 yX4_requireTransfer : Cond) ∈ wsA := inA (k := 447) (by decide +kernel) rfl
theorem q448 : (.static yX4_requireTransfer : Cond) ∈ wsA := inA (k := 448) (by decide +kernel) rfl
theorem q449 : (.code yX4_requireTransfer cX4_requireTransfer 4 (none : Option Jvm.ClassFile.FieldType) : Cond) ∈ wsA := inA (k := 449) (by decide +kernel) rfl
theorem q450 : (.methodLink RX4 225 yX4_isIn : Cond) ∈ wsA := inA (k := 450) (by decide +kernel) rfl
theorem q452 : (.methodLink RX4 98 yX4_outcomeOfTarget : Cond) ∈ wsA := inA (k := 452) (by decide +kernel) rfl
theorem q454 : (.instanceMethod yX4_outcomeOfTarget : Cond) ∈ wsA := inA (k := 454) (by decide +kernel) rfl
theorem q455 : (.code yX4_outcomeOfTarget cX4_outcomeOfTarget 6 (some .int) : Cond) ∈ wsA := inA (k := 455) (by decide +kernel) rfl
theorem q458 : (.instanceMethod yX3_fits : Cond) ∈ wsA := inA (k := 458) (by decide +kernel) rfl
theorem q459 : (.code yX3_fits cX3_fits 4 (some .boolean) : Cond) ∈ wsA := inA (k := 459) (by decide +kernel) rfl
theorem q461 : (.static yX4_moved : Cond) ∈ wsA := inA (k := 461) (by decide +kernel) rfl
theorem q462 : (.code yX4_moved cX4_moved 6 (some .int) : Cond) ∈ wsA := inA (k := 462) (by decide +kernel) rfl
theorem q463 : (.methodLink RX4 114 yX4_allowsTree : Cond) ∈ wsA := inA (k := 463) (by decide +kernel) rfl
theorem q465 : (.instanceMethod yX4_allowsTree : Cond) ∈ wsA := inA (k := 465) (by decide +kernel) rfl
theorem q466 : (.code yX4_allowsTree cX4_allowsTree 6 (some .boolean) : Cond) ∈ wsA := inA (k := 466) (by decide +kernel) rfl
theorem q469 : (.instanceMethod yX3_treeSize : Cond) ∈ wsA := inA (k := 469) (by decide +kernel) rfl
theorem q470 : (.code yX3_treeSize cX3_treeSize 4 (some .int) : Cond) ∈ wsA := inA (k := 470) (by decide +kernel) rfl
theorem q471 : (.methodLink RX4 105 yX4_removeTree : Cond) ∈ wsA := inA (k := 471) (by decide +kernel) rfl
theorem q473 : (.instanceMethod yX4_removeTree : Cond) ∈ wsA := inA (k := 473) (by decide +kernel) rfl
theorem q474 : (.code yX4_removeTree cX4_removeTree 2 (none : Option Jvm.ClassFile.FieldType) : Cond) ∈ wsA := inA (k := 474) (by decide +kernel) rfl
theorem q477 : (.instanceMethod yX3_appendCopyOfTree : Cond) ∈ wsA := inA (k := 477) (by decide +kernel) rfl
theorem q478 : (.code yX3_appendCopyOfTree cX3_appendCopyOfTree 6 (none : Option Jvm.ClassFile.FieldType) : Cond) ∈ wsA := inA (k := 478) (by decide +kernel) rfl
theorem q479 : (.methodLink RX3 58 yX3_append : Cond) ∈ wsA := inA (k := 479) (by decide +kernel) rfl
theorem q480 : (.methodLink RL 110 yL_move : Cond) ∈ wsA := inA (k := 480) (by decide +kernel) rfl
theorem q481 : (.static yL_move : Cond) ∈ wsA := inA (k := 481) (by decide +kernel) rfl
theorem q482 : (.codeWith yL_move cL_move 8 (some .int) [(0, 16, 19, 13)] : Cond) ∈ wsA := inA (k := 482) (by decide +kernel) rfl
theorem q483 : (.methodLink RL 32 yX4_move : Cond) ∈ wsA := inA (k := 483) (by decide +kernel) rfl
theorem q484 : (.instanceMethod yX4_move : Cond) ∈ wsA := inA (k := 484) (by decide +kernel) rfl
theorem q485 : (.selects RX4 yX4_move yX4_move : Cond) ∈ wsA := inA (k := 485) (by decide +kernel) rfl
theorem q486 : (.code yX4_move cX4_move 7 (some .int) : Cond) ∈ wsA := inA (k := 486) (by decide +kernel) rfl
theorem q487 : (.methodLink RX4 117 yX4_dropLocksOfTree : Cond) ∈ wsA := inA (k := 487) (by decide +kernel) rfl
theorem q489 : (.instanceMethod yX4_dropLocksOfTree : Cond) ∈ wsA := inA (k := 489) (by decide +kernel) rfl
theorem q490 : (.code yX4_dropLocksOfTree cX4_dropLocksOfTree 4 (none : Option Jvm.ClassFile.FieldType) : Cond) ∈ wsA := inA (k := 490) (by decide +kernel) rfl
theorem q493 : (.instanceMethod yX3_renameTree : Cond) ∈ wsA := inA (k := 493) (by decide +kernel) rfl
theorem q494 : (.code yX3_renameTree cX3_renameTree 4 (none : Option Jvm.ClassFile.FieldType) : Cond) ∈ wsA := inA (k := 494) (by decide +kernel) rfl
theorem q495 : (.methodLink RX3 61 yX3_placeMember : Cond) ∈ wsA := inA (k := 495) (by decide +kernel) rfl
theorem q497 : (.instanceMethod yX3_placeMember : Cond) ∈ wsA := inA (k := 497) (by decide +kernel) rfl
theorem q498 : (.code yX3_placeMember cX3_placeMember 5 (none : Option Jvm.ClassFile.FieldType) : Cond) ∈ wsA := inA (k := 498) (by decide +kernel) rfl
theorem q499 : (.methodLink RX3 68 yX3_shift : Cond) ∈ wsA := inA (k := 499) (by decide +kernel) rfl
theorem q501 : (.instanceMethod yX3_shift : Cond) ∈ wsA := inA (k := 501) (by decide +kernel) rfl
theorem q502 : (.code yX3_shift cX3_shift 5 (none : Option Jvm.ClassFile.FieldType) : Cond) ∈ wsA := inA (k := 502) (by decide +kernel) rfl
theorem q504 : (.methodLink RX3 71 yX3_memberIndex : Cond) ∈ wsA := inA (k := 504) (by decide +kernel) rfl
theorem q506 : (.instanceMethod yX3_memberIndex : Cond) ∈ wsA := inA (k := 506) (by decide +kernel) rfl
theorem q507 : (.code yX3_memberIndex cX3_memberIndex 5 (some .int) : Cond) ∈ wsA := inA (k := 507) (by decide +kernel) rfl
theorem q508 : (.methodLink RL 113 yL_kindOf : Cond) ∈ wsA := inA (k := 508) (by decide +kernel) rfl
theorem q509 : (.static yL_kindOf : Cond) ∈ wsA := inA (k := 509) (by decide +kernel) rfl
theorem q510 : (.codeWith yL_kindOf cL_kindOf 4 (some .int) [(0, 9, 12, 13)] : Cond) ∈ wsA := inA (k := 510) (by decide +kernel) rfl
theorem q511 : (.methodLink RL 35 yX4_kindOf : Cond) ∈ wsA := inA (k := 511) (by decide +kernel) rfl
theorem q512 : (.instanceMethod yX4_kindOf : Cond) ∈ wsA := inA (k := 512) (by decide +kernel) rfl
theorem q513 : (.selects RX4 yX4_kindOf yX4_kindOf : Cond) ∈ wsA := inA (k := 513) (by decide +kernel) rfl
theorem q514 : (.code yX4_kindOf cX4_kindOf 2 (some .int) : Cond) ∈ wsA := inA (k := 514) (by decide +kernel) rfl
theorem q516 : (.methodLink RL 116 yL_content : Cond) ∈ wsA := inA (k := 516) (by decide +kernel) rfl
theorem q517 : (.static yL_content : Cond) ∈ wsA := inA (k := 517) (by decide +kernel) rfl
theorem q518 : (.codeWith yL_content cL_content 4 (some .int) [(0, 9, 12, 13)] : Cond) ∈ wsA := inA (k := 518) (by decide +kernel) rfl
theorem q519 : (.methodLink RL 38 yX4_content : Cond) ∈ wsA := inA (k := 519) (by decide +kernel) rfl
theorem q520 : (.instanceMethod yX4_content : Cond) ∈ wsA := inA (k := 520) (by decide +kernel) rfl
theorem q521 : (.selects RX4 yX4_content yX4_content : Cond) ∈ wsA := inA (k := 521) (by decide +kernel) rfl
theorem q522 : (.code yX4_content cX4_content 3 (some .int) : Cond) ∈ wsA := inA (k := 522) (by decide +kernel) rfl
theorem q523 : (.methodLink RL 123 yL_members : Cond) ∈ wsA := inA (k := 523) (by decide +kernel) rfl
theorem q524 : (.static yL_members : Cond) ∈ wsA := inA (k := 524) (by decide +kernel) rfl
theorem q525 : (.codeWith yL_members cL_members 4 (some .int) [(0, 9, 12, 13)] : Cond) ∈ wsA := inA (k := 525) (by decide +kernel) rfl
theorem q526 : (.methodLink RL 41 yX4_members : Cond) ∈ wsA := inA (k := 526) (by decide +kernel) rfl
theorem q527 : (.instanceMethod yX4_members : Cond) ∈ wsA := inA (k := 527) (by decide +kernel) rfl
theorem q528 : (.selects RX4 yX4_members yX4_members : Cond) ∈ wsA := inA (k := 528) (by decide +kernel) rfl
theorem q529 : (.code yX4_members cX4_members 2 (some .int) : Cond) ∈ wsA := inA (k := 529) (by decide +kernel) rfl
theorem q532 : (.instanceMethod yX3_memberCount : Cond) ∈ wsA := inA (k := 532) (by decide +kernel) rfl
theorem q533 : (.code yX3_memberCount cX3_memberCount 4 (some .int) : Cond) ∈ wsA := inA (k := 533) (by decide +kernel) rfl
theorem q534 : (.methodLink RL 126 yL_memberAt : Cond) ∈ wsA := inA (k := 534) (by decide +kernel) rfl
theorem q535 : (.static yL_memberAt : Cond) ∈ wsA := inA (k := 535) (by decide +kernel) rfl
theorem q536 : (.codeWith yL_memberAt cL_memberAt 5 (some .int) [(0, 10, 13, 13), (0, 10, 17, 26)] : Cond) ∈ wsA := inA (k := 536) (by decide +kernel) rfl
theorem q537 : (.methodLink RL 44 yX4_memberAt : Cond) ∈ wsA := inA (k := 537) (by decide +kernel) rfl
theorem q538 : (.instanceMethod yX4_memberAt : Cond) ∈ wsA := inA (k := 538) (by decide +kernel) rfl
theorem q539 : (.selects RX4 yX4_memberAt yX4_memberAt : Cond) ∈ wsA := inA (k := 539) (by decide +kernel) rfl
theorem q540 : (.code yX4_memberAt cX4_memberAt 4 (some .int) : Cond) ∈ wsA := inA (k := 540) (by decide +kernel) rfl
theorem q543 : (.methodLink RL 130 yL_order : Cond) ∈ wsA := inA (k := 543) (by decide +kernel) rfl
theorem q544 : (.static yL_order : Cond) ∈ wsA := inA (k := 544) (by decide +kernel) rfl
theorem q545 : (.codeWith yL_order cL_order 7 (some .int) [(0, 14, 17, 13)] : Cond) ∈ wsA := inA (k := 545) (by decide +kernel) rfl
theorem q546 : (.methodLink RL 48 yX4_order : Cond) ∈ wsA := inA (k := 546) (by decide +kernel) rfl
theorem q547 : (.instanceMethod yX4_order : Cond) ∈ wsA := inA (k := 547) (by decide +kernel) rfl
theorem q548 : (.selects RX4 yX4_order yX4_order : Cond) ∈ wsA := inA (k := 548) (by decide +kernel) rfl
theorem q549 : (.code yX4_order cX4_order 5 (some .int) : Cond) ∈ wsA := inA (k := 549) (by decide +kernel) rfl
theorem q551 : (.methodLink RL 134 yL_lock : Cond) ∈ wsA := inA (k := 551) (by decide +kernel) rfl
theorem q552 : (.static yL_lock : Cond) ∈ wsA := inA (k := 552) (by decide +kernel) rfl
theorem q553 : (.codeWith yL_lock cL_lock 9 (some .int) [(0, 18, 21, 13), (0, 18, 25, 56)] : Cond) ∈ wsA := inA (k := 553) (by decide +kernel) rfl
theorem q554 : (.classLink RL 56 "java/lang/IllegalStateException" : Cond) ∈ wsA := inA (k := 554) (by decide +kernel) rfl
theorem q555 : (.methodLink RL 52 yX4_lock : Cond) ∈ wsA := inA (k := 555) (by decide +kernel) rfl
theorem q556 : (.instanceMethod yX4_lock : Cond) ∈ wsA := inA (k := 556) (by decide +kernel) rfl
theorem q557 : (.selects RX4 yX4_lock yX4_lock : Cond) ∈ wsA := inA (k := 557) (by decide +kernel) rfl
theorem q558 : (.code yX4_lock cX4_lock 7 (some .int) : Cond) ∈ wsA := inA (k := 558) (by decide +kernel) rfl
theorem q559 : (.classLink RX4 153 "java/lang/IllegalStateException" : Cond) ∈ wsA := inA (k := 559) (by decide +kernel) rfl
theorem q560 : (.instantiable "java/lang/IllegalStateException" 6 : Cond) ∈ wsA := inA (k := 560) (by decide +kernel) rfl
theorem q577 : (.instanceMethod yX1_bar : Cond) ∈ wsA := inA (k := 577) (by decide +kernel) rfl
theorem q578 : (.code yX1_bar cX1_bar 6 (some .boolean) : Cond) ∈ wsA := inA (k := 578) (by decide +kernel) rfl
theorem q584 : (.instanceMethod yX1_add : Cond) ∈ wsA := inA (k := 584) (by decide +kernel) rfl
theorem q585 : (.code yX1_add cX1_add 7 (some .int) : Cond) ∈ wsA := inA (k := 585) (by decide +kernel) rfl
theorem q586 : (.methodLink RL 138 yL_refresh : Cond) ∈ wsA := inA (k := 586) (by decide +kernel) rfl
theorem q587 : (.static yL_refresh : Cond) ∈ wsA := inA (k := 587) (by decide +kernel) rfl
theorem q588 : (.codeWith yL_refresh cL_refresh 6 (some .int) [(0, 12, 15, 26), (0, 12, 19, 13), (0, 12, 23, 56)] : Cond) ∈ wsA := inA (k := 588) (by decide +kernel) rfl
theorem q589 : (.methodLink RL 58 yX4_refresh : Cond) ∈ wsA := inA (k := 589) (by decide +kernel) rfl
theorem q590 : (.instanceMethod yX4_refresh : Cond) ∈ wsA := inA (k := 590) (by decide +kernel) rfl
theorem q591 : (.selects RX4 yX4_refresh yX4_refresh : Cond) ∈ wsA := inA (k := 591) (by decide +kernel) rfl
theorem q592 : (.code yX4_refresh cX4_refresh 6 (some .int) : Cond) ∈ wsA := inA (k := 592) (by decide +kernel) rfl
theorem q596 : (.methodLink RL 141 yL_pass : Cond) ∈ wsA := inA (k := 596) (by decide +kernel) rfl
theorem q597 : (.static yL_pass : Cond) ∈ wsA := inA (k := 597) (by decide +kernel) rfl
theorem q598 : (.codeWith yL_pass cL_pass 4 (some .int) [(0, 9, 12, 13), (0, 9, 15, 56)] : Cond) ∈ wsA := inA (k := 598) (by decide +kernel) rfl
theorem q599 : (.methodLink RL 61 yX4_pass : Cond) ∈ wsA := inA (k := 599) (by decide +kernel) rfl
theorem q600 : (.instanceMethod yX4_pass : Cond) ∈ wsA := inA (k := 600) (by decide +kernel) rfl
theorem q601 : (.selects RX4 yX4_pass yX4_pass : Cond) ∈ wsA := inA (k := 601) (by decide +kernel) rfl
theorem q602 : (.code yX4_pass cX4_pass 2 (some .int) : Cond) ∈ wsA := inA (k := 602) (by decide +kernel) rfl
theorem q603 : (.constant RX4 188 (1000000 : Int32) : Cond) ∈ wsA := inA (k := 603) (by decide +kernel) rfl
theorem q607 : (.instanceMethod yX1_advance : Cond) ∈ wsA := inA (k := 607) (by decide +kernel) rfl
theorem q608 : (.code yX1_advance cX1_advance 6 (some .int) : Cond) ∈ wsA := inA (k := 608) (by decide +kernel) rfl
theorem q609 : (.methodLink RL 144 yL_covering : Cond) ∈ wsA := inA (k := 609) (by decide +kernel) rfl
theorem q610 : (.static yL_covering : Cond) ∈ wsA := inA (k := 610) (by decide +kernel) rfl
theorem q611 : (.codeWith yL_covering cL_covering 4 (some .int) [(0, 9, 12, 13)] : Cond) ∈ wsA := inA (k := 611) (by decide +kernel) rfl
theorem q612 : (.methodLink RL 64 yX4_covering : Cond) ∈ wsA := inA (k := 612) (by decide +kernel) rfl
theorem q613 : (.instanceMethod yX4_covering : Cond) ∈ wsA := inA (k := 613) (by decide +kernel) rfl
theorem q614 : (.selects RX4 yX4_covering yX4_covering : Cond) ∈ wsA := inA (k := 614) (by decide +kernel) rfl
theorem q615 : (.code yX4_covering cX4_covering 2 (some .int) : Cond) ∈ wsA := inA (k := 615) (by decide +kernel) rfl
theorem q617 : (.methodLink RL 147 yL_mayChange : Cond) ∈ wsA := inA (k := 617) (by decide +kernel) rfl
theorem q618 : (.static yL_mayChange : Cond) ∈ wsA := inA (k := 618) (by decide +kernel) rfl
theorem q619 : (.codeWith yL_mayChange cL_mayChange 6 (some .int) [(0, 19, 22, 13)] : Cond) ∈ wsA := inA (k := 619) (by decide +kernel) rfl
theorem q620 : (.methodLink RL 67 yX4_mayChange : Cond) ∈ wsA := inA (k := 620) (by decide +kernel) rfl
theorem q621 : (.instanceMethod yX4_mayChange : Cond) ∈ wsA := inA (k := 621) (by decide +kernel) rfl
theorem q622 : (.selects RX4 yX4_mayChange yX4_mayChange : Cond) ∈ wsA := inA (k := 622) (by decide +kernel) rfl
theorem q623 : (.code yX4_mayChange cX4_mayChange 4 (some .boolean) : Cond) ∈ wsA := inA (k := 623) (by decide +kernel) rfl
theorem q624 : (.methodLink RL 150 yL_keep : Cond) ∈ wsA := inA (k := 624) (by decide +kernel) rfl
theorem q625 : (.static yL_keep : Cond) ∈ wsA := inA (k := 625) (by decide +kernel) rfl
theorem q626 : (.codeWith yL_keep cL_keep 4 (some .int) [(0, 9, 12, 13), (0, 9, 15, 56)] : Cond) ∈ wsA := inA (k := 626) (by decide +kernel) rfl
theorem q627 : (.methodLink RL 71 yX4_keep : Cond) ∈ wsA := inA (k := 627) (by decide +kernel) rfl
theorem q628 : (.instanceMethod yX4_keep : Cond) ∈ wsA := inA (k := 628) (by decide +kernel) rfl
theorem q629 : (.selects RX4 yX4_keep yX4_keep : Cond) ∈ wsA := inA (k := 629) (by decide +kernel) rfl
theorem q630 : (.code yX4_keep cX4_keep 3 (some .int) : Cond) ∈ wsA := inA (k := 630) (by decide +kernel) rfl
theorem q635 : (.instanceMethod yX2_addVersion : Cond) ∈ wsA := inA (k := 635) (by decide +kernel) rfl
theorem q636 : (.code yX2_addVersion cX2_addVersion 1 (some .int) : Cond) ∈ wsA := inA (k := 636) (by decide +kernel) rfl
theorem q637 : (.methodLink RL 153 yL_restore : Cond) ∈ wsA := inA (k := 637) (by decide +kernel) rfl
theorem q638 : (.static yL_restore : Cond) ∈ wsA := inA (k := 638) (by decide +kernel) rfl
theorem q639 : (.codeWith yL_restore cL_restore 7 (some .int) [(0, 14, 17, 13)] : Cond) ∈ wsA := inA (k := 639) (by decide +kernel) rfl
theorem q640 : (.methodLink RL 74 yX4_restore : Cond) ∈ wsA := inA (k := 640) (by decide +kernel) rfl
theorem q641 : (.instanceMethod yX4_restore : Cond) ∈ wsA := inA (k := 641) (by decide +kernel) rfl
theorem q642 : (.selects RX4 yX4_restore yX4_restore : Cond) ∈ wsA := inA (k := 642) (by decide +kernel) rfl
theorem q643 : (.code yX4_restore cX4_restore 7 (some .int) : Cond) ∈ wsA := inA (k := 643) (by decide +kernel) rfl
theorem q646 : (.instanceMethod yX2_versionAt : Cond) ∈ wsA := inA (k := 646) (by decide +kernel) rfl
theorem q647 : (.code yX2_versionAt cX2_versionAt 2 (some .int) : Cond) ∈ wsA := inA (k := 647) (by decide +kernel) rfl
theorem q648 : (.classLink RL 78 RX5 : Cond) ∈ wsA := inA (k := 648) (by decide +kernel) rfl
theorem q649 : (.instantiable RX5 20 : Cond) ∈ wsA := inA (k := 649) (by decide +kernel) rfl
theorem q650 : (.methodLink RL 80 yX5_init : Cond) ∈ wsA := inA (k := 650) (by decide +kernel) rfl
theorem q651 : (.instanceMethod yX5_init : Cond) ∈ wsA := inA (k := 651) (by decide +kernel) rfl
theorem q652 : (.code yX5_init cX5_init 1 (none : Option Jvm.ClassFile.FieldType) : Cond) ∈ wsA := inA (k := 652) (by decide +kernel) rfl
theorem q653 : (.methodLink RX5 1 objectInit : Cond) ∈ wsA := inA (k := 653) (by decide +kernel) rfl
theorem q654 : (.fieldLink RX5 7 "ShelfServerModel" "used" "[Z" : Cond) ∈ wsA := inA (k := 654) (by decide +kernel) rfl
theorem q655 : (.fieldLink RX5 13 "ShelfServerModel" "path" "[I" : Cond) ∈ wsA := inA (k := 655) (by decide +kernel) rfl
theorem q656 : (.fieldLink RX5 17 "ShelfServerModel" "kind" "[I" : Cond) ∈ wsA := inA (k := 656) (by decide +kernel) rfl
theorem q657 : (.fieldLink RX5 20 "ShelfServerModel" "content" "[I" : Cond) ∈ wsA := inA (k := 657) (by decide +kernel) rfl
theorem q658 : (.fieldLink RX5 23 "ShelfServerModel" "rank" "[I" : Cond) ∈ wsA := inA (k := 658) (by decide +kernel) rfl
theorem q659 : (.fieldLink RX5 82 "ShelfServerModel" "ranks" "I" : Cond) ∈ wsA := inA (k := 659) (by decide +kernel) rfl
theorem q660 : (.fieldLink RX5 26 "ShelfServerModel" "versions" "[I" : Cond) ∈ wsA := inA (k := 660) (by decide +kernel) rfl
theorem q661 : (.fieldLink RX5 29 "ShelfServerModel" "kept" "[I" : Cond) ∈ wsA := inA (k := 661) (by decide +kernel) rfl
theorem q662 : (.fieldLink RX5 88 "ShelfServerModel" "time" "I" : Cond) ∈ wsA := inA (k := 662) (by decide +kernel) rfl
theorem q663 : (.fieldLink RX5 85 "ShelfServerModel" "locks" "I" : Cond) ∈ wsA := inA (k := 663) (by decide +kernel) rfl
theorem q664 : (.fieldLink RX5 32 "ShelfServerModel" "owner" "[I" : Cond) ∈ wsA := inA (k := 664) (by decide +kernel) rfl
theorem q665 : (.fieldLink RX5 35 "ShelfServerModel" "spot" "[I" : Cond) ∈ wsA := inA (k := 665) (by decide +kernel) rfl
theorem q666 : (.fieldLink RX5 38 "ShelfServerModel" "shared" "[Z" : Cond) ∈ wsA := inA (k := 666) (by decide +kernel) rfl
theorem q667 : (.fieldLink RX5 41 "ShelfServerModel" "deep" "[Z" : Cond) ∈ wsA := inA (k := 667) (by decide +kernel) rfl
theorem q668 : (.fieldLink RX5 44 "ShelfServerModel" "end" "[I" : Cond) ∈ wsA := inA (k := 668) (by decide +kernel) rfl
theorem q669 : (.fieldLink RX5 127 "ShelfServerModel" "failures" "I" : Cond) ∈ wsA := inA (k := 669) (by decide +kernel) rfl
theorem q670 : (.fieldLink RX5 47 "ShelfServerModel" "failed" "[I" : Cond) ∈ wsA := inA (k := 670) (by decide +kernel) rfl
theorem q671 : (.fieldLink RX5 50 "ShelfServerModel" "marked" "[Z" : Cond) ∈ wsA := inA (k := 671) (by decide +kernel) rfl
theorem q672 : (.fieldLink RX5 53 "ShelfServerModel" "fixed" "[Z" : Cond) ∈ wsA := inA (k := 672) (by decide +kernel) rfl
theorem q673 : (.fieldLink RX5 56 "ShelfServerModel" "thrown" "I" : Cond) ∈ wsA := inA (k := 673) (by decide +kernel) rfl
theorem q715 : (.arrayClass .boolean : Cond) ∈ wsA := inA (k := 715) (by decide +kernel) rfl
theorem q716 : (.methodLink RL 87 yX5_thrown : Cond) ∈ wsA := inA (k := 716) (by decide +kernel) rfl
theorem q717 : (.instanceMethod yX5_thrown : Cond) ∈ wsA := inA (k := 717) (by decide +kernel) rfl
theorem q718 : (.selects RX5 yX5_thrown yX5_thrown : Cond) ∈ wsA := inA (k := 718) (by decide +kernel) rfl
theorem q719 : (.code yX5_thrown cX5_thrown 1 (some .int) : Cond) ∈ wsA := inA (k := 719) (by decide +kernel) rfl
theorem q720 : (.methodLink RL 86 yX5_makeCollection : Cond) ∈ wsA := inA (k := 720) (by decide +kernel) rfl
theorem q721 : (.instanceMethod yX5_makeCollection : Cond) ∈ wsA := inA (k := 721) (by decide +kernel) rfl
theorem q722 : (.selects RX5 yX5_makeCollection yX5_makeCollection : Cond) ∈ wsA := inA (k := 722) (by decide +kernel) rfl
theorem q723 : (.code yX5_makeCollection cX5_makeCollection 5 (some .int) : Cond) ∈ wsA := inA (k := 723) (by decide +kernel) rfl
theorem q724 : (.methodLink RX5 106 yX5_isRight : Cond) ∈ wsA := inA (k := 724) (by decide +kernel) rfl
theorem q726 : (.instanceMethod yX5_isRight : Cond) ∈ wsA := inA (k := 726) (by decide +kernel) rfl
theorem q727 : (.code yX5_isRight cX5_isRight 4 (some .boolean) : Cond) ∈ wsA := inA (k := 727) (by decide +kernel) rfl
theorem q728 : (.methodLink RX5 68 yX5_isClient : Cond) ∈ wsA := inA (k := 728) (by decide +kernel) rfl
theorem q729 : (.static yX5_isClient : Cond) ∈ wsA := inA (k := 729) (by decide +kernel) rfl
theorem q730 : (.code yX5_isClient cX5_isClient 1 (some .boolean) : Cond) ∈ wsA := inA (k := 730) (by decide +kernel) rfl
theorem q731 : (.methodLink RX5 60 yX5_isIn : Cond) ∈ wsA := inA (k := 731) (by decide +kernel) rfl
theorem q732 : (.static yX5_isIn : Cond) ∈ wsA := inA (k := 732) (by decide +kernel) rfl
theorem q733 : (.code yX5_isIn cX5_isIn 3 (some .boolean) : Cond) ∈ wsA := inA (k := 733) (by decide +kernel) rfl
theorem q734 : (.methodLink RX5 71 yX5_isName : Cond) ∈ wsA := inA (k := 734) (by decide +kernel) rfl
theorem q735 : (.static yX5_isName : Cond) ∈ wsA := inA (k := 735) (by decide +kernel) rfl
theorem q736 : (.code yX5_isName cX5_isName 1 (some .boolean) : Cond) ∈ wsA := inA (k := 736) (by decide +kernel) rfl
theorem q737 : (.methodLink RX5 64 yX5_isPath : Cond) ∈ wsA := inA (k := 737) (by decide +kernel) rfl
theorem q738 : (.static yX5_isPath : Cond) ∈ wsA := inA (k := 738) (by decide +kernel) rfl
theorem q739 : (.code yX5_isPath cX5_isPath 3 (some .boolean) : Cond) ∈ wsA := inA (k := 739) (by decide +kernel) rfl
theorem q740 : (.methodLink RX5 109 yX5_kinds : Cond) ∈ wsA := inA (k := 740) (by decide +kernel) rfl
theorem q742 : (.instanceMethod yX5_kinds : Cond) ∈ wsA := inA (k := 742) (by decide +kernel) rfl
theorem q743 : (.code yX5_kinds cX5_kinds 3 (some .int) : Cond) ∈ wsA := inA (k := 743) (by decide +kernel) rfl
theorem q744 : (.methodLink RX5 74 yX5_place : Cond) ∈ wsA := inA (k := 744) (by decide +kernel) rfl
theorem q746 : (.instanceMethod yX5_place : Cond) ∈ wsA := inA (k := 746) (by decide +kernel) rfl
theorem q747 : (.code yX5_place cX5_place 4 (some .int) : Cond) ∈ wsA := inA (k := 747) (by decide +kernel) rfl
theorem q748 : (.methodLink RX5 112 yX5_mayMake : Cond) ∈ wsA := inA (k := 748) (by decide +kernel) rfl
theorem q750 : (.instanceMethod yX5_mayMake : Cond) ∈ wsA := inA (k := 750) (by decide +kernel) rfl
theorem q751 : (.code yX5_mayMake cX5_mayMake 4 (some .boolean) : Cond) ∈ wsA := inA (k := 751) (by decide +kernel) rfl
theorem q752 : (.methodLink RX5 103 yX5_may : Cond) ∈ wsA := inA (k := 752) (by decide +kernel) rfl
theorem q754 : (.instanceMethod yX5_may : Cond) ∈ wsA := inA (k := 754) (by decide +kernel) rfl
theorem q755 : (.code yX5_may cX5_may 7 (some .boolean) : Cond) ∈ wsA := inA (k := 755) (by decide +kernel) rfl
theorem q756 : (.methodLink RX5 97 yX5_set : Cond) ∈ wsA := inA (k := 756) (by decide +kernel) rfl
theorem q758 : (.instanceMethod yX5_set : Cond) ∈ wsA := inA (k := 758) (by decide +kernel) rfl
theorem q759 : (.code yX5_set cX5_set 4 (some .int) : Cond) ∈ wsA := inA (k := 759) (by decide +kernel) rfl
theorem q760 : (.methodLink RX5 94 yX5_covers : Cond) ∈ wsA := inA (k := 760) (by decide +kernel) rfl
theorem q762 : (.instanceMethod yX5_covers : Cond) ∈ wsA := inA (k := 762) (by decide +kernel) rfl
theorem q763 : (.code yX5_covers cX5_covers 3 (some .boolean) : Cond) ∈ wsA := inA (k := 763) (by decide +kernel) rfl
theorem q764 : (.methodLink RX5 91 yX5_isOn : Cond) ∈ wsA := inA (k := 764) (by decide +kernel) rfl
theorem q766 : (.instanceMethod yX5_isOn : Cond) ∈ wsA := inA (k := 766) (by decide +kernel) rfl
theorem q767 : (.code yX5_isOn cX5_isOn 2 (some .boolean) : Cond) ∈ wsA := inA (k := 767) (by decide +kernel) rfl
theorem q768 : (.methodLink RX5 78 yX5_isAbove : Cond) ∈ wsA := inA (k := 768) (by decide +kernel) rfl
theorem q769 : (.static yX5_isAbove : Cond) ∈ wsA := inA (k := 769) (by decide +kernel) rfl
theorem q770 : (.code yX5_isAbove cX5_isAbove 3 (some .boolean) : Cond) ∈ wsA := inA (k := 770) (by decide +kernel) rfl
theorem q771 : (.methodLink RX5 115 yX5_count : Cond) ∈ wsA := inA (k := 771) (by decide +kernel) rfl
theorem q773 : (.instanceMethod yX5_count : Cond) ∈ wsA := inA (k := 773) (by decide +kernel) rfl
theorem q774 : (.code yX5_count cX5_count 3 (some .int) : Cond) ∈ wsA := inA (k := 774) (by decide +kernel) rfl
theorem q775 : (.methodLink RX5 119 yX5_makes : Cond) ∈ wsA := inA (k := 775) (by decide +kernel) rfl
theorem q777 : (.instanceMethod yX5_makes : Cond) ∈ wsA := inA (k := 777) (by decide +kernel) rfl
theorem q778 : (.code yX5_makes cX5_makes 5 (some .int) : Cond) ∈ wsA := inA (k := 778) (by decide +kernel) rfl
theorem q779 : (.methodLink RL 94 yX5_put : Cond) ∈ wsA := inA (k := 779) (by decide +kernel) rfl
theorem q780 : (.instanceMethod yX5_put : Cond) ∈ wsA := inA (k := 780) (by decide +kernel) rfl
theorem q781 : (.selects RX5 yX5_put yX5_put : Cond) ∈ wsA := inA (k := 781) (by decide +kernel) rfl
theorem q782 : (.code yX5_put cX5_put 9 (some .int) : Cond) ∈ wsA := inA (k := 782) (by decide +kernel) rfl
theorem q783 : (.methodLink RX5 123 yX5_puts : Cond) ∈ wsA := inA (k := 783) (by decide +kernel) rfl
theorem q785 : (.instanceMethod yX5_puts : Cond) ∈ wsA := inA (k := 785) (by decide +kernel) rfl
theorem q786 : (.code yX5_puts cX5_puts 8 (some .int) : Cond) ∈ wsA := inA (k := 786) (by decide +kernel) rfl
theorem q787 : (.methodLink RL 97 yX5_delete : Cond) ∈ wsA := inA (k := 787) (by decide +kernel) rfl
theorem q788 : (.instanceMethod yX5_delete : Cond) ∈ wsA := inA (k := 788) (by decide +kernel) rfl
theorem q789 : (.selects RX5 yX5_delete yX5_delete : Cond) ∈ wsA := inA (k := 789) (by decide +kernel) rfl
theorem q790 : (.code yX5_delete cX5_delete 7 (some .int) : Cond) ∈ wsA := inA (k := 790) (by decide +kernel) rfl
theorem q791 : (.methodLink RX5 100 yX5_isOf : Cond) ∈ wsA := inA (k := 791) (by decide +kernel) rfl
theorem q793 : (.instanceMethod yX5_isOf : Cond) ∈ wsA := inA (k := 793) (by decide +kernel) rfl
theorem q794 : (.code yX5_isOf cX5_isOf 3 (some .boolean) : Cond) ∈ wsA := inA (k := 794) (by decide +kernel) rfl
theorem q795 : (.methodLink RX5 130 yX5_goes : Cond) ∈ wsA := inA (k := 795) (by decide +kernel) rfl
theorem q797 : (.instanceMethod yX5_goes : Cond) ∈ wsA := inA (k := 797) (by decide +kernel) rfl
theorem q798 : (.code yX5_goes cX5_goes 3 (none : Option Jvm.ClassFile.FieldType) : Cond) ∈ wsA := inA (k := 798) (by decide +kernel) rfl
theorem q799 : (.methodLink RL 101 yX5_failures : Cond) ∈ wsA := inA (k := 799) (by decide +kernel) rfl
theorem q800 : (.instanceMethod yX5_failures : Cond) ∈ wsA := inA (k := 800) (by decide +kernel) rfl
theorem q801 : (.selects RX5 yX5_failures yX5_failures : Cond) ∈ wsA := inA (k := 801) (by decide +kernel) rfl
theorem q802 : (.code yX5_failures cX5_failures 1 (some .int) : Cond) ∈ wsA := inA (k := 802) (by decide +kernel) rfl
theorem q803 : (.methodLink RL 105 yX5_failureAt : Cond) ∈ wsA := inA (k := 803) (by decide +kernel) rfl
theorem q804 : (.instanceMethod yX5_failureAt : Cond) ∈ wsA := inA (k := 804) (by decide +kernel) rfl
theorem q805 : (.selects RX5 yX5_failureAt yX5_failureAt : Cond) ∈ wsA := inA (k := 805) (by decide +kernel) rfl
theorem q806 : (.code yX5_failureAt cX5_failureAt 6 (some .int) : Cond) ∈ wsA := inA (k := 806) (by decide +kernel) rfl
theorem q807 : (.methodLink RL 109 yX5_copy : Cond) ∈ wsA := inA (k := 807) (by decide +kernel) rfl
theorem q808 : (.instanceMethod yX5_copy : Cond) ∈ wsA := inA (k := 808) (by decide +kernel) rfl
theorem q809 : (.selects RX5 yX5_copy yX5_copy : Cond) ∈ wsA := inA (k := 809) (by decide +kernel) rfl
theorem q810 : (.code yX5_copy cX5_copy 6 (some .int) : Cond) ∈ wsA := inA (k := 810) (by decide +kernel) rfl
theorem q811 : (.methodLink RX5 151 yX5_brings : Cond) ∈ wsA := inA (k := 811) (by decide +kernel) rfl
theorem q813 : (.instanceMethod yX5_brings : Cond) ∈ wsA := inA (k := 813) (by decide +kernel) rfl
theorem q814 : (.code yX5_brings cX5_brings 13 (some .int) : Cond) ∈ wsA := inA (k := 814) (by decide +kernel) rfl
theorem q815 : (.methodLink RX5 134 yX5_digits : Cond) ∈ wsA := inA (k := 815) (by decide +kernel) rfl
theorem q816 : (.static yX5_digits : Cond) ∈ wsA := inA (k := 816) (by decide +kernel) rfl
theorem q817 : (.code yX5_digits cX5_digits 1 (some .int) : Cond) ∈ wsA := inA (k := 817) (by decide +kernel) rfl
theorem q818 : (.methodLink RX5 137 yX5_mayAll : Cond) ∈ wsA := inA (k := 818) (by decide +kernel) rfl
theorem q820 : (.instanceMethod yX5_mayAll : Cond) ∈ wsA := inA (k := 820) (by decide +kernel) rfl
theorem q821 : (.code yX5_mayAll cX5_mayAll 6 (some .boolean) : Cond) ∈ wsA := inA (k := 821) (by decide +kernel) rfl
theorem q822 : (.methodLink RX5 140 yX5_carries : Cond) ∈ wsA := inA (k := 822) (by decide +kernel) rfl
theorem q824 : (.instanceMethod yX5_carries : Cond) ∈ wsA := inA (k := 824) (by decide +kernel) rfl
theorem q825 : (.code yX5_carries cX5_carries 7 (none : Option Jvm.ClassFile.FieldType) : Cond) ∈ wsA := inA (k := 825) (by decide +kernel) rfl
theorem q826 : (.methodLink RX5 144 yX5_lowest : Cond) ∈ wsA := inA (k := 826) (by decide +kernel) rfl
theorem q828 : (.instanceMethod yX5_lowest : Cond) ∈ wsA := inA (k := 828) (by decide +kernel) rfl
theorem q829 : (.code yX5_lowest cX5_lowest 3 (some .int) : Cond) ∈ wsA := inA (k := 829) (by decide +kernel) rfl
theorem q830 : (.methodLink RX5 147 yX5_power : Cond) ∈ wsA := inA (k := 830) (by decide +kernel) rfl
theorem q831 : (.static yX5_power : Cond) ∈ wsA := inA (k := 831) (by decide +kernel) rfl
theorem q832 : (.code yX5_power cX5_power 4 (some .int) : Cond) ∈ wsA := inA (k := 832) (by decide +kernel) rfl
theorem q833 : (.methodLink RL 112 yX5_move : Cond) ∈ wsA := inA (k := 833) (by decide +kernel) rfl
theorem q834 : (.instanceMethod yX5_move : Cond) ∈ wsA := inA (k := 834) (by decide +kernel) rfl
theorem q835 : (.selects RX5 yX5_move yX5_move : Cond) ∈ wsA := inA (k := 835) (by decide +kernel) rfl
theorem q836 : (.code yX5_move cX5_move 6 (some .int) : Cond) ∈ wsA := inA (k := 836) (by decide +kernel) rfl
theorem q837 : (.methodLink RL 115 yX5_kindOf : Cond) ∈ wsA := inA (k := 837) (by decide +kernel) rfl
theorem q838 : (.instanceMethod yX5_kindOf : Cond) ∈ wsA := inA (k := 838) (by decide +kernel) rfl
theorem q839 : (.selects RX5 yX5_kindOf yX5_kindOf : Cond) ∈ wsA := inA (k := 839) (by decide +kernel) rfl
theorem q840 : (.code yX5_kindOf cX5_kindOf 2 (some .int) : Cond) ∈ wsA := inA (k := 840) (by decide +kernel) rfl
theorem q841 : (.methodLink RX5 155 yX5_asks : Cond) ∈ wsA := inA (k := 841) (by decide +kernel) rfl
theorem q843 : (.instanceMethod yX5_asks : Cond) ∈ wsA := inA (k := 843) (by decide +kernel) rfl
theorem q844 : (.code yX5_asks cX5_asks 2 (some .boolean) : Cond) ∈ wsA := inA (k := 844) (by decide +kernel) rfl
theorem q845 : (.methodLink RL 118 yX5_content : Cond) ∈ wsA := inA (k := 845) (by decide +kernel) rfl
theorem q846 : (.instanceMethod yX5_content : Cond) ∈ wsA := inA (k := 846) (by decide +kernel) rfl
theorem q847 : (.selects RX5 yX5_content yX5_content : Cond) ∈ wsA := inA (k := 847) (by decide +kernel) rfl
theorem q848 : (.code yX5_content cX5_content 2 (some .int) : Cond) ∈ wsA := inA (k := 848) (by decide +kernel) rfl
theorem q849 : (.methodLink RL 122 yX5_resources : Cond) ∈ wsA := inA (k := 849) (by decide +kernel) rfl
theorem q850 : (.instanceMethod yX5_resources : Cond) ∈ wsA := inA (k := 850) (by decide +kernel) rfl
theorem q851 : (.selects RX5 yX5_resources yX5_resources : Cond) ∈ wsA := inA (k := 851) (by decide +kernel) rfl
theorem q852 : (.code yX5_resources cX5_resources 1 (some .int) : Cond) ∈ wsA := inA (k := 852) (by decide +kernel) rfl
theorem q853 : (.methodLink RL 125 yX5_members : Cond) ∈ wsA := inA (k := 853) (by decide +kernel) rfl
theorem q854 : (.instanceMethod yX5_members : Cond) ∈ wsA := inA (k := 854) (by decide +kernel) rfl
theorem q855 : (.selects RX5 yX5_members yX5_members : Cond) ∈ wsA := inA (k := 855) (by decide +kernel) rfl
theorem q856 : (.code yX5_members cX5_members 2 (some .int) : Cond) ∈ wsA := inA (k := 856) (by decide +kernel) rfl
theorem q857 : (.methodLink RX5 161 yX5_membersOf : Cond) ∈ wsA := inA (k := 857) (by decide +kernel) rfl
theorem q859 : (.instanceMethod yX5_membersOf : Cond) ∈ wsA := inA (k := 859) (by decide +kernel) rfl
theorem q860 : (.code yX5_membersOf cX5_membersOf 4 (some .int) : Cond) ∈ wsA := inA (k := 860) (by decide +kernel) rfl
theorem q861 : (.methodLink RX5 158 yX5_isMember : Cond) ∈ wsA := inA (k := 861) (by decide +kernel) rfl
theorem q863 : (.instanceMethod yX5_isMember : Cond) ∈ wsA := inA (k := 863) (by decide +kernel) rfl
theorem q864 : (.code yX5_isMember cX5_isMember 3 (some .boolean) : Cond) ∈ wsA := inA (k := 864) (by decide +kernel) rfl
theorem q865 : (.methodLink RL 129 yX5_memberAt : Cond) ∈ wsA := inA (k := 865) (by decide +kernel) rfl
theorem q866 : (.instanceMethod yX5_memberAt : Cond) ∈ wsA := inA (k := 866) (by decide +kernel) rfl
theorem q867 : (.selects RX5 yX5_memberAt yX5_memberAt : Cond) ∈ wsA := inA (k := 867) (by decide +kernel) rfl
theorem q868 : (.code yX5_memberAt cX5_memberAt 4 (some .int) : Cond) ∈ wsA := inA (k := 868) (by decide +kernel) rfl
theorem q869 : (.methodLink RX5 164 yX5_memberOf : Cond) ∈ wsA := inA (k := 869) (by decide +kernel) rfl
theorem q871 : (.instanceMethod yX5_memberOf : Cond) ∈ wsA := inA (k := 871) (by decide +kernel) rfl
theorem q872 : (.code yX5_memberOf cX5_memberOf 7 (some .int) : Cond) ∈ wsA := inA (k := 872) (by decide +kernel) rfl
theorem q873 : (.methodLink RL 133 yX5_order : Cond) ∈ wsA := inA (k := 873) (by decide +kernel) rfl
theorem q874 : (.instanceMethod yX5_order : Cond) ∈ wsA := inA (k := 874) (by decide +kernel) rfl
theorem q875 : (.selects RX5 yX5_order yX5_order : Cond) ∈ wsA := inA (k := 875) (by decide +kernel) rfl
theorem q876 : (.code yX5_order cX5_order 11 (some .int) : Cond) ∈ wsA := inA (k := 876) (by decide +kernel) rfl
theorem q877 : (.methodLink RL 137 yX5_lock : Cond) ∈ wsA := inA (k := 877) (by decide +kernel) rfl
theorem q878 : (.instanceMethod yX5_lock : Cond) ∈ wsA := inA (k := 878) (by decide +kernel) rfl
theorem q879 : (.selects RX5 yX5_lock yX5_lock : Cond) ∈ wsA := inA (k := 879) (by decide +kernel) rfl
theorem q880 : (.code yX5_lock cX5_lock 9 (some .int) : Cond) ∈ wsA := inA (k := 880) (by decide +kernel) rfl
theorem q881 : (.methodLink RX5 167 yX5_clashes : Cond) ∈ wsA := inA (k := 881) (by decide +kernel) rfl
theorem q883 : (.instanceMethod yX5_clashes : Cond) ∈ wsA := inA (k := 883) (by decide +kernel) rfl
theorem q884 : (.code yX5_clashes cX5_clashes 7 (some .boolean) : Cond) ∈ wsA := inA (k := 884) (by decide +kernel) rfl
theorem q885 : (.methodLink RL 140 yX5_refresh : Cond) ∈ wsA := inA (k := 885) (by decide +kernel) rfl
theorem q886 : (.instanceMethod yX5_refresh : Cond) ∈ wsA := inA (k := 886) (by decide +kernel) rfl
theorem q887 : (.selects RX5 yX5_refresh yX5_refresh : Cond) ∈ wsA := inA (k := 887) (by decide +kernel) rfl
theorem q888 : (.code yX5_refresh cX5_refresh 5 (some .int) : Cond) ∈ wsA := inA (k := 888) (by decide +kernel) rfl
theorem q889 : (.methodLink RL 143 yX5_pass : Cond) ∈ wsA := inA (k := 889) (by decide +kernel) rfl
theorem q890 : (.instanceMethod yX5_pass : Cond) ∈ wsA := inA (k := 890) (by decide +kernel) rfl
theorem q891 : (.selects RX5 yX5_pass yX5_pass : Cond) ∈ wsA := inA (k := 891) (by decide +kernel) rfl
theorem q892 : (.code yX5_pass cX5_pass 4 (some .int) : Cond) ∈ wsA := inA (k := 892) (by decide +kernel) rfl
theorem q893 : (.constant RX5 171 (1000000 : Int32) : Cond) ∈ wsA := inA (k := 893) (by decide +kernel) rfl
theorem q894 : (.methodLink RL 146 yX5_covering : Cond) ∈ wsA := inA (k := 894) (by decide +kernel) rfl
theorem q895 : (.instanceMethod yX5_covering : Cond) ∈ wsA := inA (k := 895) (by decide +kernel) rfl
theorem q896 : (.selects RX5 yX5_covering yX5_covering : Cond) ∈ wsA := inA (k := 896) (by decide +kernel) rfl
theorem q897 : (.code yX5_covering cX5_covering 2 (some .int) : Cond) ∈ wsA := inA (k := 897) (by decide +kernel) rfl
theorem q898 : (.methodLink RL 149 yX5_mayChange : Cond) ∈ wsA := inA (k := 898) (by decide +kernel) rfl
theorem q899 : (.instanceMethod yX5_mayChange : Cond) ∈ wsA := inA (k := 899) (by decide +kernel) rfl
theorem q900 : (.selects RX5 yX5_mayChange yX5_mayChange : Cond) ∈ wsA := inA (k := 900) (by decide +kernel) rfl
theorem q901 : (.code yX5_mayChange cX5_mayChange 4 (some .boolean) : Cond) ∈ wsA := inA (k := 901) (by decide +kernel) rfl
theorem q902 : (.methodLink RL 152 yX5_keep : Cond) ∈ wsA := inA (k := 902) (by decide +kernel) rfl
theorem q903 : (.instanceMethod yX5_keep : Cond) ∈ wsA := inA (k := 903) (by decide +kernel) rfl
theorem q904 : (.selects RX5 yX5_keep yX5_keep : Cond) ∈ wsA := inA (k := 904) (by decide +kernel) rfl
theorem q905 : (.code yX5_keep cX5_keep 4 (some .int) : Cond) ∈ wsA := inA (k := 905) (by decide +kernel) rfl
theorem q906 : (.methodLink RL 155 yX5_restore : Cond) ∈ wsA := inA (k := 906) (by decide +kernel) rfl
theorem q907 : (.instanceMethod yX5_restore : Cond) ∈ wsA := inA (k := 907) (by decide +kernel) rfl
theorem q908 : (.selects RX5 yX5_restore yX5_restore : Cond) ∈ wsA := inA (k := 908) (by decide +kernel) rfl
theorem q909 : (.code yX5_restore cX5_restore 8 (some .int) : Cond) ∈ wsA := inA (k := 909) (by decide +kernel) rfl
theorem q910 : (.arrayClass .long : Cond) ∈ wsA := inA (k := 910) (by decide +kernel) rfl
