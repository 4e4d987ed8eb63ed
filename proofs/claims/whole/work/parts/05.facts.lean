theorem q1 : (.selects RX3 yX3_isCollection yX3_isCollection : Cond) ∈ wsA := inA (k := 1) (by decide +kernel) rfl
theorem q2 : (.selects RX3 yX3_kindAt yX3_kindAt : Cond) ∈ wsA := inA (k := 2) (by decide +kernel) rfl
theorem q3 : (.selects RX3 yX3_find yX3_find : Cond) ∈ wsA := inA (k := 3) (by decide +kernel) rfl
theorem q4 : (.selects RX3 yX3_indexOf yX3_indexOf : Cond) ∈ wsA := inA (k := 4) (by decide +kernel) rfl
theorem q5 : (.selects RX4 yX4_allowsWithParent yX4_allowsWithParent : Cond) ∈ wsA := inA (k := 5) (by decide +kernel) rfl
theorem q6 : (.selects RX1 yX1_allows yX1_allows : Cond) ∈ wsA := inA (k := 6) (by decide +kernel) rfl
theorem q7 : (.selects RX1 yX1_tokensOver yX1_tokensOver : Cond) ∈ wsA := inA (k := 7) (by decide +kernel) rfl
theorem q8 : (.selects RX1 yX1_find yX1_find : Cond) ∈ wsA := inA (k := 8) (by decide +kernel) rfl
theorem q9 : (.selects RX0 yX0_covers yX0_covers : Cond) ∈ wsA := inA (k := 9) (by decide +kernel) rfl
theorem q10 : (.selects RX3 yX3_append yX3_append : Cond) ∈ wsA := inA (k := 10) (by decide +kernel) rfl
theorem q11 : (.selects RX2 yX2_begin yX2_begin : Cond) ∈ wsA := inA (k := 11) (by decide +kernel) rfl
theorem q12 : (.selects RX4 yX4_outcomeOfWriting yX4_outcomeOfWriting : Cond) ∈ wsA := inA (k := 12) (by decide +kernel) rfl
theorem q13 : (.selects RX3 yX3_findFile yX3_findFile : Cond) ∈ wsA := inA (k := 13) (by decide +kernel) rfl
theorem q14 : (.selects RX4 yX4_write yX4_write : Cond) ∈ wsA := inA (k := 14) (by decide +kernel) rfl
theorem q15 : (.selects RX4 yX4_noteFailures yX4_noteFailures : Cond) ∈ wsA := inA (k := 15) (by decide +kernel) rfl
theorem q16 : (.selects RX4 yX4_insertFailure yX4_insertFailure : Cond) ∈ wsA := inA (k := 16) (by decide +kernel) rfl
theorem q17 : (.selects RX3 yX3_markTree yX3_markTree : Cond) ∈ wsA := inA (k := 17) (by decide +kernel) rfl
theorem q18 : (.selects RX4 yX4_spareFailures yX4_spareFailures : Cond) ∈ wsA := inA (k := 18) (by decide +kernel) rfl
theorem q19 : (.selects RX3 yX3_spareUpFrom yX3_spareUpFrom : Cond) ∈ wsA := inA (k := 19) (by decide +kernel) rfl
theorem q20 : (.selects RX4 yX4_removeMarked yX4_removeMarked : Cond) ∈ wsA := inA (k := 20) (by decide +kernel) rfl
theorem q21 : (.selects RX1 yX1_dropAt yX1_dropAt : Cond) ∈ wsA := inA (k := 21) (by decide +kernel) rfl
theorem q22 : (.selects RX3 yX3_removeMarked yX3_removeMarked : Cond) ∈ wsA := inA (k := 22) (by decide +kernel) rfl
theorem q23 : (.selects RX4 yX4_outcomeOfTarget yX4_outcomeOfTarget : Cond) ∈ wsA := inA (k := 23) (by decide +kernel) rfl
theorem q24 : (.selects RX3 yX3_fits yX3_fits : Cond) ∈ wsA := inA (k := 24) (by decide +kernel) rfl
theorem q25 : (.selects RX4 yX4_allowsTree yX4_allowsTree : Cond) ∈ wsA := inA (k := 25) (by decide +kernel) rfl
theorem q26 : (.selects RX3 yX3_treeSize yX3_treeSize : Cond) ∈ wsA := inA (k := 26) (by decide +kernel) rfl
theorem q27 : (.selects RX4 yX4_removeTree yX4_removeTree : Cond) ∈ wsA := inA (k := 27) (by decide +kernel) rfl
theorem q28 : (.selects RX3 yX3_appendCopyOfTree yX3_appendCopyOfTree : Cond) ∈ wsA := inA (k := 28) (by decide +kernel) rfl
theorem q29 : (.selects RX4 yX4_dropLocksOfTree yX4_dropLocksOfTree : Cond) ∈ wsA := inA (k := 29) (by decide +kernel) rfl
theorem q30 : (.selects RX3 yX3_renameTree yX3_renameTree : Cond) ∈ wsA := inA (k := 30) (by decide +kernel) rfl
theorem q31 : (.selects RX3 yX3_placeMember yX3_placeMember : Cond) ∈ wsA := inA (k := 31) (by decide +kernel) rfl
theorem q32 : (.selects RX3 yX3_shift yX3_shift : Cond) ∈ wsA := inA (k := 32) (by decide +kernel) rfl
theorem q33 : (.selects RX3 yX3_memberIndex yX3_memberIndex : Cond) ∈ wsA := inA (k := 33) (by decide +kernel) rfl
theorem q34 : (.selects RX3 yX3_memberCount yX3_memberCount : Cond) ∈ wsA := inA (k := 34) (by decide +kernel) rfl
theorem q35 : (.selects RX1 yX1_bar yX1_bar : Cond) ∈ wsA := inA (k := 35) (by decide +kernel) rfl
theorem q36 : (.selects RX1 yX1_add yX1_add : Cond) ∈ wsA := inA (k := 36) (by decide +kernel) rfl
theorem q37 : (.selects RX1 yX1_advance yX1_advance : Cond) ∈ wsA := inA (k := 37) (by decide +kernel) rfl
theorem q38 : (.selects RX2 yX2_addVersion yX2_addVersion : Cond) ∈ wsA := inA (k := 38) (by decide +kernel) rfl
theorem q39 : (.selects RX2 yX2_hasVersion yX2_hasVersion : Cond) ∈ wsA := inA (k := 39) (by decide +kernel) rfl
theorem q40 : (.selects RX2 yX2_takeVersion yX2_takeVersion : Cond) ∈ wsA := inA (k := 40) (by decide +kernel) rfl
theorem q41 : (.selects RX5 yX5_isRight yX5_isRight : Cond) ∈ wsA := inA (k := 41) (by decide +kernel) rfl
theorem q42 : (.selects RX5 yX5_kinds yX5_kinds : Cond) ∈ wsA := inA (k := 42) (by decide +kernel) rfl
theorem q43 : (.selects RX5 yX5_place yX5_place : Cond) ∈ wsA := inA (k := 43) (by decide +kernel) rfl
theorem q44 : (.selects RX5 yX5_mayMake yX5_mayMake : Cond) ∈ wsA := inA (k := 44) (by decide +kernel) rfl
theorem q45 : (.selects RX5 yX5_may yX5_may : Cond) ∈ wsA := inA (k := 45) (by decide +kernel) rfl
theorem q46 : (.selects RX5 yX5_set yX5_set : Cond) ∈ wsA := inA (k := 46) (by decide +kernel) rfl
theorem q47 : (.selects RX5 yX5_covers yX5_covers : Cond) ∈ wsA := inA (k := 47) (by decide +kernel) rfl
theorem q48 : (.selects RX5 yX5_isOn yX5_isOn : Cond) ∈ wsA := inA (k := 48) (by decide +kernel) rfl
theorem q49 : (.selects RX5 yX5_count yX5_count : Cond) ∈ wsA := inA (k := 49) (by decide +kernel) rfl
theorem q50 : (.selects RX5 yX5_makes yX5_makes : Cond) ∈ wsA := inA (k := 50) (by decide +kernel) rfl
theorem q51 : (.selects RX5 yX5_puts yX5_puts : Cond) ∈ wsA := inA (k := 51) (by decide +kernel) rfl
theorem q52 : (.selects RX5 yX5_isOf yX5_isOf : Cond) ∈ wsA := inA (k := 52) (by decide +kernel) rfl
theorem q53 : (.selects RX5 yX5_goes yX5_goes : Cond) ∈ wsA := inA (k := 53) (by decide +kernel) rfl
theorem q54 : (.selects RX5 yX5_brings yX5_brings : Cond) ∈ wsA := inA (k := 54) (by decide +kernel) rfl
theorem q55 : (.selects RX5 yX5_mayAll yX5_mayAll : Cond) ∈ wsA := inA (k := 55) (by decide +kernel) rfl
theorem q56 : (.selects RX5 yX5_carries yX5_carries : Cond) ∈ wsA := inA (k := 56) (by decide +kernel) rfl
theorem q57 : (.selects RX5 yX5_lowest yX5_lowest : Cond) ∈ wsA := inA (k := 57) (by decide +kernel) rfl
theorem q58 : (.selects RX5 yX5_asks yX5_asks : Cond) ∈ wsA := inA (k := 58) (by decide +kernel) rfl
theorem q59 : (.selects RX5 yX5_membersOf yX5_membersOf : Cond) ∈ wsA := inA (k := 59) (by decide +kernel) rfl
theorem q60 : (.selects RX5 yX5_isMember yX5_isMember : Cond) ∈ wsA := inA (k := 60) (by decide +kernel) rfl
theorem q61 : (.selects RX5 yX5_memberOf yX5_memberOf : Cond) ∈ wsA := inA (k := 61) (by decide +kernel) rfl
theorem q62 : (.selects RX5 yX5_clashes yX5_clashes : Cond) ∈ wsA := inA (k := 62) (by decide +kernel) rfl
theorem q63 : (.initialized RL : Cond) ∈ wsA := inA (k := 63) (by decide +kernel) rfl
theorem q64 : (.initialized RX4 : Cond) ∈ wsA := inA (k := 64) (by decide +kernel) rfl
theorem q65 : (.initialized RX3 : Cond) ∈ wsA := inA (k := 65) (by decide +kernel) rfl
theorem q66 : (.initialized RX2 : Cond) ∈ wsA := inA (k := 66) (by decide +kernel) rfl
theorem q67 : (.initialized RX1 : Cond) ∈ wsA := inA (k := 67) (by decide +kernel) rfl
theorem q68 : (.initialized RX0 : Cond) ∈ wsA := inA (k := 68) (by decide +kernel) rfl
theorem q69 : (.initialized RX5 : Cond) ∈ wsA := inA (k := 69) (by decide +kernel) rfl
theorem q73 : (.initialized "java/lang/IllegalArgumentException" : Cond) ∈ wsA := inA (k := 73) (by decide +kernel) rfl
theorem q74 : (.initialized "java/lang/IndexOutOfBoundsException" : Cond) ∈ wsA := inA (k := 74) (by decide +kernel) rfl
theorem q75 : (.initialized "java/lang/IllegalStateException" : Cond) ∈ wsA := inA (k := 75) (by decide +kernel) rfl
theorem q76 : (.classLink RL 8 RX4 : Cond) ∈ wsA := inA (k := 76) (by decide +kernel) rfl
theorem q77 : (.instantiable RX4 4 : Cond) ∈ wsA := inA (k := 77) (by decide +kernel) rfl
theorem q78 : (.methodLink RL 77 yX4_init : Cond) ∈ wsA := inA (k := 78) (by decide +kernel) rfl
theorem q79 : (.instanceMethod yX4_init : Cond) ∈ wsA := inA (k := 79) (by decide +kernel) rfl
theorem q80 : (.code yX4_init cX4_init 1 (none : Option Jvm.ClassFile.FieldType) : Cond) ∈ wsA := inA (k := 80) (by decide +kernel) rfl
theorem q81 : (.methodLink RX4 1 objectInit : Cond) ∈ wsA := inA (k := 81) (by decide +kernel) rfl
theorem q82 : (.instanceMethod objectInit : Cond) ∈ wsA := inA (k := 82) (by decide +kernel) rfl
theorem q83 : (.code objectInit object_method_1_code 1 (none : Option Jvm.ClassFile.FieldType) : Cond) ∈ wsA := inA (k := 83) (by decide +kernel) rfl
theorem q84 : (.classLink RX4 7 RX3 : Cond) ∈ wsA := inA (k := 84) (by decide +kernel) rfl
theorem q85 : (.instantiable RX3 2 : Cond) ∈ wsA := inA (k := 85) (by decide +kernel) rfl
theorem q87 : (.instanceMethod yX3_init : Cond) ∈ wsA := inA (k := 87) (by decide +kernel) rfl
theorem q88 : (.code yX3_init cX3_init 2 (none : Option Jvm.ClassFile.FieldType) : Cond) ∈ wsA := inA (k := 88) (by decide +kernel) rfl
theorem q89 : (.methodLink RX3 3 objectInit : Cond) ∈ wsA := inA (k := 89) (by decide +kernel) rfl
theorem q90 : (.classLink RX3 9 RX2 : Cond) ∈ wsA := inA (k := 90) (by decide +kernel) rfl
theorem q92 : (.instantiable RX2 6 : Cond) ∈ wsA := inA (k := 92) (by decide +kernel) rfl
theorem q94 : (.instanceMethod yX2_init : Cond) ∈ wsA := inA (k := 94) (by decide +kernel) rfl
theorem q95 : (.code yX2_init cX2_init 1 (none : Option Jvm.ClassFile.FieldType) : Cond) ∈ wsA := inA (k := 95) (by decide +kernel) rfl
theorem q96 : (.methodLink RX2 3 objectInit : Cond) ∈ wsA := inA (k := 96) (by decide +kernel) rfl
theorem q97 : (.fieldLink RX2 15 "ShelfServer$Resource" "path" "I" : Cond) ∈ wsA := inA (k := 97) (by decide +kernel) rfl
theorem q100 : (.fieldLink RX2 19 "ShelfServer$Resource" "kind" "I" : Cond) ∈ wsA := inA (k := 100) (by decide +kernel) rfl
theorem q102 : (.fieldLink RX2 22 "ShelfServer$Resource" "content" "I" : Cond) ∈ wsA := inA (k := 102) (by decide +kernel) rfl
theorem q105 : (.fieldLink RX2 25 "ShelfServer$Resource" "isGoing" "Z" : Cond) ∈ wsA := inA (k := 105) (by decide +kernel) rfl
theorem q108 : (.fieldLink RX2 9 "ShelfServer$Resource" "versions" "[I" : Cond) ∈ wsA := inA (k := 108) (by decide +kernel) rfl
theorem q109 : (.fieldLink RX2 29 "ShelfServer$Resource" "versionCount" "I" : Cond) ∈ wsA := inA (k := 109) (by decide +kernel) rfl
theorem q124 : (.arrayClass .int : Cond) ∈ wsA := inA (k := 124) (by decide +kernel) rfl
theorem q125 : (.fieldLink RX3 11 "ShelfServer$Shelf" "row" "[LShelfServer$Resource;" : Cond) ∈ wsA := inA (k := 125) (by decide +kernel) rfl
theorem q127 : (.fieldLink RX3 18 "ShelfServer$Shelf" "count" "I" : Cond) ∈ wsA := inA (k := 127) (by decide +kernel) rfl
theorem q134 : (.classLink RX4 16 RX1 : Cond) ∈ wsA := inA (k := 134) (by decide +kernel) rfl
theorem q135 : (.instantiable RX1 3 : Cond) ∈ wsA := inA (k := 135) (by decide +kernel) rfl
theorem q137 : (.instanceMethod yX1_init : Cond) ∈ wsA := inA (k := 137) (by decide +kernel) rfl
theorem q138 : (.code yX1_init cX1_init 2 (none : Option Jvm.ClassFile.FieldType) : Cond) ∈ wsA := inA (k := 138) (by decide +kernel) rfl
theorem q139 : (.methodLink RX1 3 objectInit : Cond) ∈ wsA := inA (k := 139) (by decide +kernel) rfl
theorem q140 : (.classLink RX1 9 RX0 : Cond) ∈ wsA := inA (k := 140) (by decide +kernel) rfl
theorem q142 : (.instantiable RX0 5 : Cond) ∈ wsA := inA (k := 142) (by decide +kernel) rfl
theorem q144 : (.instanceMethod yX0_init : Cond) ∈ wsA := inA (k := 144) (by decide +kernel) rfl
theorem q145 : (.code yX0_init cX0_init 1 (none : Option Jvm.ClassFile.FieldType) : Cond) ∈ wsA := inA (k := 145) (by decide +kernel) rfl
theorem q146 : (.methodLink RX0 1 objectInit : Cond) ∈ wsA := inA (k := 146) (by decide +kernel) rfl
theorem q149 : (.fieldLink RX0 7 "ShelfServer$Lock" "path" "I" : Cond) ∈ wsA := inA (k := 149) (by decide +kernel) rfl
theorem q152 : (.fieldLink RX0 13 "ShelfServer$Lock" "isDeep" "Z" : Cond) ∈ wsA := inA (k := 152) (by decide +kernel) rfl
theorem q167 : (.fieldLink RX1 11 "ShelfServer$Locks" "row" "[LShelfServer$Lock;" : Cond) ∈ wsA := inA (k := 167) (by decide +kernel) rfl
theorem q168 : (.fieldLink RX1 18 "ShelfServer$Locks" "count" "I" : Cond) ∈ wsA := inA (k := 168) (by decide +kernel) rfl
theorem q170 : (.fieldLink RX1 22 "ShelfServer$Locks" "now" "I" : Cond) ∈ wsA := inA (k := 170) (by decide +kernel) rfl
theorem q179 : (.fieldLink RX4 10 "ShelfServer" "shelf" "LShelfServer$Shelf;" : Cond) ∈ wsA := inA (k := 179) (by decide +kernel) rfl
theorem q180 : (.fieldLink RX4 19 "ShelfServer" "locks" "LShelfServer$Locks;" : Cond) ∈ wsA := inA (k := 180) (by decide +kernel) rfl
theorem q181 : (.fieldLink RX4 23 "ShelfServer" "failed" "[I" : Cond) ∈ wsA := inA (k := 181) (by decide +kernel) rfl
theorem q182 : (.fieldLink RX4 27 "ShelfServer" "failedCount" "I" : Cond) ∈ wsA := inA (k := 182) (by decide +kernel) rfl
theorem q192 : (.methodLink RL 98 yX4_failures : Cond) ∈ wsA := inA (k := 192) (by decide +kernel) rfl
theorem q193 : (.instanceMethod yX4_failures : Cond) ∈ wsA := inA (k := 193) (by decide +kernel) rfl
theorem q194 : (.selects RX4 yX4_failures yX4_failures : Cond) ∈ wsA := inA (k := 194) (by decide +kernel) rfl
theorem q195 : (.code yX4_failures cX4_failures 1 (some .int) : Cond) ∈ wsA := inA (k := 195) (by decide +kernel) rfl
theorem q196 : (.methodLink RL 119 yX4_resources : Cond) ∈ wsA := inA (k := 196) (by decide +kernel) rfl
theorem q197 : (.instanceMethod yX4_resources : Cond) ∈ wsA := inA (k := 197) (by decide +kernel) rfl
theorem q198 : (.selects RX4 yX4_resources yX4_resources : Cond) ∈ wsA := inA (k := 198) (by decide +kernel) rfl
theorem q199 : (.code yX4_resources cX4_resources 1 (some .int) : Cond) ∈ wsA := inA (k := 199) (by decide +kernel) rfl
theorem q200 : (.methodLink RL 81 yL_makeCollection : Cond) ∈ wsA := inA (k := 200) (by decide +kernel) rfl
theorem q201 : (.static yL_makeCollection : Cond) ∈ wsA := inA (k := 201) (by decide +kernel) rfl
theorem q202 : (.codeWith yL_makeCollection cL_makeCollection 6 (some .int) [(0, 12, 15, 13)] : Cond) ∈ wsA := inA (k := 202) (by decide +kernel) rfl
theorem q203 : (.classLink RL 13 "java/lang/IllegalArgumentException" : Cond) ∈ wsA := inA (k := 203) (by decide +kernel) rfl
theorem q204 : (.methodLink RL 7 yX4_makeCollection : Cond) ∈ wsA := inA (k := 204) (by decide +kernel) rfl
theorem q205 : (.instanceMethod yX4_makeCollection : Cond) ∈ wsA := inA (k := 205) (by decide +kernel) rfl
theorem q206 : (.selects RX4 yX4_makeCollection yX4_makeCollection : Cond) ∈ wsA := inA (k := 206) (by decide +kernel) rfl
theorem q207 : (.code yX4_makeCollection cX4_makeCollection 4 (some .int) : Cond) ∈ wsA := inA (k := 207) (by decide +kernel) rfl
theorem q208 : (.methodLink RX4 31 yX4_requireClient : Cond) ∈ wsA := inA (k := 208) (by decide +kernel) rfl
theorem q209 : (.static yX4_requireClient : Cond) ∈ wsA := inA (k := 209) (by decide +kernel) rfl
theorem q210 : (.code yX4_requireClient cX4_requireClient 1 (none : Option Jvm.ClassFile.FieldType) : Cond) ∈ wsA := inA (k := 210) (by decide +kernel) rfl
theorem q211 : (.methodLink RX4 64 yX4_requireRange : Cond) ∈ wsA := inA (k := 211) (by decide +kernel) rfl
theorem q212 : (.static yX4_requireRange : Cond) ∈ wsA := inA (k := 212) (by decide +kernel) rfl
theorem q213 : (.code yX4_requireRange cX4_requireRange 3 (none : Option Jvm.ClassFile.FieldType) : Cond) ∈ wsA := inA (k := 213) (by decide +kernel) rfl
theorem q214 : (.classLink RX4 218 "java/lang/IllegalArgumentException" : Cond) ∈ wsA := inA (k := 214) (by decide +kernel) rfl
theorem q215 : (.instantiable "java/lang/IllegalArgumentException" 6 : Cond) ∈ wsA := inA (k := 215) (by decide +kernel) rfl
theorem q239 : (.methodLink "java/lang/Throwable" 1 objectInit : Cond) ∈ wsA := inA (k := 239) (by decide +kernel) rfl
theorem q281 : (.arrayClass .byte : Cond) ∈ wsA := inA (k := 281) (by decide +kernel) rfl
theorem q282 : (.methodLink RX4 35 yX4_requirePathBelowTop : Cond) ∈ wsA := inA (k := 282) (by decide +kernel) rfl
theorem q283 : (.static yX4_requirePathBelowTop : Cond) ∈ wsA := inA (k := 283) (by decide +kernel) rfl
theorem q284 : (.code yX4_requirePathBelowTop cX4_requirePathBelowTop 1 (none : Option Jvm.ClassFile.FieldType) : Cond) ∈ wsA := inA (k := 284) (by decide +kernel) rfl
theorem q285 : (.methodLink RX4 123 yX4_requirePath : Cond) ∈ wsA := inA (k := 285) (by decide +kernel) rfl
theorem q286 : (.static yX4_requirePath : Cond) ∈ wsA := inA (k := 286) (by decide +kernel) rfl
theorem q287 : (.code yX4_requirePath cX4_requirePath 1 (none : Option Jvm.ClassFile.FieldType) : Cond) ∈ wsA := inA (k := 287) (by decide +kernel) rfl
theorem q288 : (.methodLink RX4 225 yX4_isPath : Cond) ∈ wsA := inA (k := 288) (by decide +kernel) rfl
theorem q289 : (.static yX4_isPath : Cond) ∈ wsA := inA (k := 289) (by decide +kernel) rfl
theorem q290 : (.code yX4_isPath cX4_isPath 3 (some .boolean) : Cond) ∈ wsA := inA (k := 290) (by decide +kernel) rfl
theorem q293 : (.methodLink RX4 38 yX4_requireNotNegative : Cond) ∈ wsA := inA (k := 293) (by decide +kernel) rfl
theorem q294 : (.static yX4_requireNotNegative : Cond) ∈ wsA := inA (k := 294) (by decide +kernel) rfl
theorem q295 : (.code yX4_requireNotNegative cX4_requireNotNegative 1 (none : Option Jvm.ClassFile.FieldType) : Cond) ∈ wsA := inA (k := 295) (by decide +kernel) rfl
theorem q297 : (.methodLink RX4 41 yX4_parentOf : Cond) ∈ wsA := inA (k := 297) (by decide +kernel) rfl
theorem q298 : (.static yX4_parentOf : Cond) ∈ wsA := inA (k := 298) (by decide +kernel) rfl
theorem q299 : (.code yX4_parentOf cX4_parentOf 1 (some .int) : Cond) ∈ wsA := inA (k := 299) (by decide +kernel) rfl
theorem q302 : (.instanceMethod yX3_isCollection : Cond) ∈ wsA := inA (k := 302) (by decide +kernel) rfl
theorem q303 : (.code yX3_isCollection cX3_isCollection 2 (some .boolean) : Cond) ∈ wsA := inA (k := 303) (by decide +kernel) rfl
theorem q304 : (.methodLink RX3 36 yX3_kindAt : Cond) ∈ wsA := inA (k := 304) (by decide +kernel) rfl
theorem q306 : (.instanceMethod yX3_kindAt : Cond) ∈ wsA := inA (k := 306) (by decide +kernel) rfl
theorem q307 : (.code yX3_kindAt cX3_kindAt 3 (some .int) : Cond) ∈ wsA := inA (k := 307) (by decide +kernel) rfl
theorem q308 : (.methodLink RX3 29 yX3_find : Cond) ∈ wsA := inA (k := 308) (by decide +kernel) rfl
theorem q310 : (.instanceMethod yX3_find : Cond) ∈ wsA := inA (k := 310) (by decide +kernel) rfl
theorem q311 : (.code yX3_find cX3_find 3 (some (.object "ShelfServer$Resource")) : Cond) ∈ wsA := inA (k := 311) (by decide +kernel) rfl
theorem q312 : (.methodLink RX3 25 yX3_indexOf : Cond) ∈ wsA := inA (k := 312) (by decide +kernel) rfl
theorem q314 : (.instanceMethod yX3_indexOf : Cond) ∈ wsA := inA (k := 314) (by decide +kernel) rfl
theorem q315 : (.code yX3_indexOf cX3_indexOf 3 (some .int) : Cond) ∈ wsA := inA (k := 315) (by decide +kernel) rfl
theorem q317 : (.methodLink RX4 53 yX4_allowsWithParent : Cond) ∈ wsA := inA (k := 317) (by decide +kernel) rfl
theorem q319 : (.instanceMethod yX4_allowsWithParent : Cond) ∈ wsA := inA (k := 319) (by decide +kernel) rfl
theorem q320 : (.code yX4_allowsWithParent cX4_allowsWithParent 4 (some .boolean) : Cond) ∈ wsA := inA (k := 320) (by decide +kernel) rfl
theorem q323 : (.instanceMethod yX1_allows : Cond) ∈ wsA := inA (k := 323) (by decide +kernel) rfl
theorem q324 : (.code yX1_allows cX1_allows 7 (some .boolean) : Cond) ∈ wsA := inA (k := 324) (by decide +kernel) rfl
theorem q325 : (.methodLink RX1 36 yX1_tokensOver : Cond) ∈ wsA := inA (k := 325) (by decide +kernel) rfl
theorem q327 : (.instanceMethod yX1_tokensOver : Cond) ∈ wsA := inA (k := 327) (by decide +kernel) rfl
theorem q328 : (.code yX1_tokensOver cX1_tokensOver 5 (some .int) : Cond) ∈ wsA := inA (k := 328) (by decide +kernel) rfl
theorem q329 : (.methodLink RX1 28 yX1_find : Cond) ∈ wsA := inA (k := 329) (by decide +kernel) rfl
theorem q331 : (.instanceMethod yX1_find : Cond) ∈ wsA := inA (k := 331) (by decide +kernel) rfl
theorem q332 : (.code yX1_find cX1_find 2 (some (.object "ShelfServer$Lock")) : Cond) ∈ wsA := inA (k := 332) (by decide +kernel) rfl
theorem q335 : (.instanceMethod yX0_covers : Cond) ∈ wsA := inA (k := 335) (by decide +kernel) rfl
theorem q336 : (.code yX0_covers cX0_covers 2 (some .boolean) : Cond) ∈ wsA := inA (k := 336) (by decide +kernel) rfl
theorem q338 : (.static yX4_isAbove : Cond) ∈ wsA := inA (k := 338) (by decide +kernel) rfl
theorem q339 : (.code yX4_isAbove cX4_isAbove 4 (some .boolean) : Cond) ∈ wsA := inA (k := 339) (by decide +kernel) rfl
theorem q342 : (.instanceMethod yX3_append : Cond) ∈ wsA := inA (k := 342) (by decide +kernel) rfl
theorem q343 : (.code yX3_append cX3_append 4 (none : Option Jvm.ClassFile.FieldType) : Cond) ∈ wsA := inA (k := 343) (by decide +kernel) rfl
theorem q346 : (.instanceMethod yX2_begin : Cond) ∈ wsA := inA (k := 346) (by decide +kernel) rfl
theorem q347 : (.code yX2_begin cX2_begin 4 (none : Option Jvm.ClassFile.FieldType) : Cond) ∈ wsA := inA (k := 347) (by decide +kernel) rfl
theorem q348 : (.methodLink RL 91 yL_put : Cond) ∈ wsA := inA (k := 348) (by decide +kernel) rfl
theorem q349 : (.static yL_put : Cond) ∈ wsA := inA (k := 349) (by decide +kernel) rfl
theorem q350 : (.codeWith yL_put cL_put 8 (some .int) [(0, 16, 19, 13)] : Cond) ∈ wsA := inA (k := 350) (by decide +kernel) rfl
theorem q351 : (.methodLink RL 15 yX4_put : Cond) ∈ wsA := inA (k := 351) (by decide +kernel) rfl
theorem q352 : (.instanceMethod yX4_put : Cond) ∈ wsA := inA (k := 352) (by decide +kernel) rfl
theorem q353 : (.selects RX4 yX4_put yX4_put : Cond) ∈ wsA := inA (k := 353) (by decide +kernel) rfl
theorem q354 : (.code yX4_put cX4_put 7 (some .int) : Cond) ∈ wsA := inA (k := 354) (by decide +kernel) rfl
theorem q355 : (.methodLink RX4 67 yX4_outcomeOfWriting : Cond) ∈ wsA := inA (k := 355) (by decide +kernel) rfl
theorem q357 : (.instanceMethod yX4_outcomeOfWriting : Cond) ∈ wsA := inA (k := 357) (by decide +kernel) rfl
theorem q358 : (.code yX4_outcomeOfWriting cX4_outcomeOfWriting 6 (some .int) : Cond) ∈ wsA := inA (k := 358) (by decide +kernel) rfl
theorem q361 : (.instanceMethod yX3_findFile : Cond) ∈ wsA := inA (k := 361) (by decide +kernel) rfl
theorem q362 : (.code yX3_findFile cX3_findFile 3 (some (.object "ShelfServer$Resource")) : Cond) ∈ wsA := inA (k := 362) (by decide +kernel) rfl
theorem q363 : (.methodLink RX4 71 yX4_write : Cond) ∈ wsA := inA (k := 363) (by decide +kernel) rfl
theorem q365 : (.instanceMethod yX4_write : Cond) ∈ wsA := inA (k := 365) (by decide +kernel) rfl
theorem q366 : (.code yX4_write cX4_write 4 (none : Option Jvm.ClassFile.FieldType) : Cond) ∈ wsA := inA (k := 366) (by decide +kernel) rfl
theorem q367 : (.methodLink RL 95 yL_delete : Cond) ∈ wsA := inA (k := 367) (by decide +kernel) rfl
theorem q368 : (.static yL_delete : Cond) ∈ wsA := inA (k := 368) (by decide +kernel) rfl
theorem q369 : (.codeWith yL_delete cL_delete 6 (some .int) [(0, 12, 15, 13)] : Cond) ∈ wsA := inA (k := 369) (by decide +kernel) rfl
theorem q370 : (.methodLink RL 19 yX4_delete : Cond) ∈ wsA := inA (k := 370) (by decide +kernel) rfl
theorem q371 : (.instanceMethod yX4_delete : Cond) ∈ wsA := inA (k := 371) (by decide +kernel) rfl
theorem q372 : (.selects RX4 yX4_delete yX4_delete : Cond) ∈ wsA := inA (k := 372) (by decide +kernel) rfl
theorem q373 : (.code yX4_delete cX4_delete 4 (some .int) : Cond) ∈ wsA := inA (k := 373) (by decide +kernel) rfl
theorem q374 : (.methodLink RX4 75 yX4_noteFailures : Cond) ∈ wsA := inA (k := 374) (by decide +kernel) rfl
theorem q376 : (.instanceMethod yX4_noteFailures : Cond) ∈ wsA := inA (k := 376) (by decide +kernel) rfl
theorem q377 : (.code yX4_noteFailures cX4_noteFailures 6 (none : Option Jvm.ClassFile.FieldType) : Cond) ∈ wsA := inA (k := 377) (by decide +kernel) rfl
theorem q378 : (.methodLink RX4 238 yX4_isAbove : Cond) ∈ wsA := inA (k := 378) (by decide +kernel) rfl
theorem q379 : (.methodLink RX4 244 yX4_insertFailure : Cond) ∈ wsA := inA (k := 379) (by decide +kernel) rfl
theorem q381 : (.instanceMethod yX4_insertFailure : Cond) ∈ wsA := inA (k := 381) (by decide +kernel) rfl
theorem q382 : (.code yX4_insertFailure cX4_insertFailure 3 (none : Option Jvm.ClassFile.FieldType) : Cond) ∈ wsA := inA (k := 382) (by decide +kernel) rfl
theorem q385 : (.instanceMethod yX3_markTree : Cond) ∈ wsA := inA (k := 385) (by decide +kernel) rfl
theorem q386 : (.code yX3_markTree cX3_markTree 3 (none : Option Jvm.ClassFile.FieldType) : Cond) ∈ wsA := inA (k := 386) (by decide +kernel) rfl
theorem q388 : (.static yX4_isIn : Cond) ∈ wsA := inA (k := 388) (by decide +kernel) rfl
theorem q389 : (.code yX4_isIn cX4_isIn 2 (some .boolean) : Cond) ∈ wsA := inA (k := 389) (by decide +kernel) rfl
theorem q390 : (.methodLink RX4 81 yX4_spareFailures : Cond) ∈ wsA := inA (k := 390) (by decide +kernel) rfl
theorem q392 : (.instanceMethod yX4_spareFailures : Cond) ∈ wsA := inA (k := 392) (by decide +kernel) rfl
theorem q393 : (.code yX4_spareFailures cX4_spareFailures 2 (none : Option Jvm.ClassFile.FieldType) : Cond) ∈ wsA := inA (k := 393) (by decide +kernel) rfl
theorem q396 : (.instanceMethod yX3_spareUpFrom : Cond) ∈ wsA := inA (k := 396) (by decide +kernel) rfl
theorem q397 : (.code yX3_spareUpFrom cX3_spareUpFrom 3 (none : Option Jvm.ClassFile.FieldType) : Cond) ∈ wsA := inA (k := 397) (by decide +kernel) rfl
theorem q398 : (.methodLink RX4 84 yX4_removeMarked : Cond) ∈ wsA := inA (k := 398) (by decide +kernel) rfl
theorem q400 : (.instanceMethod yX4_removeMarked : Cond) ∈ wsA := inA (k := 400) (by decide +kernel) rfl
theorem q401 : (.code yX4_removeMarked cX4_removeMarked 2 (none : Option Jvm.ClassFile.FieldType) : Cond) ∈ wsA := inA (k := 401) (by decide +kernel) rfl
theorem q404 : (.instanceMethod yX1_dropAt : Cond) ∈ wsA := inA (k := 404) (by decide +kernel) rfl
theorem q405 : (.code yX1_dropAt cX1_dropAt 4 (none : Option Jvm.ClassFile.FieldType) : Cond) ∈ wsA := inA (k := 405) (by decide +kernel) rfl
theorem q408 : (.instanceMethod yX3_removeMarked : Cond) ∈ wsA := inA (k := 408) (by decide +kernel) rfl
theorem q409 : (.code yX3_removeMarked cX3_removeMarked 4 (none : Option Jvm.ClassFile.FieldType) : Cond) ∈ wsA := inA (k := 409) (by decide +kernel) rfl
theorem q410 : (.methodLink RL 102 yL_failureAt : Cond) ∈ wsA := inA (k := 410) (by decide +kernel) rfl
theorem q411 : (.static yL_failureAt : Cond) ∈ wsA := inA (k := 411) (by decide +kernel) rfl
theorem q412 : (.codeWith yL_failureAt cL_failureAt 4 (some .int) [(0, 9, 12, 26)] : Cond) ∈ wsA := inA (k := 412) (by decide +kernel) rfl
theorem q413 : (.classLink RL 26 "java/lang/IndexOutOfBoundsException" : Cond) ∈ wsA := inA (k := 413) (by decide +kernel) rfl
theorem q414 : (.methodLink RL 22 yX4_failureAt : Cond) ∈ wsA := inA (k := 414) (by decide +kernel) rfl
theorem q415 : (.instanceMethod yX4_failureAt : Cond) ∈ wsA := inA (k := 415) (by decide +kernel) rfl
theorem q416 : (.selects RX4 yX4_failureAt yX4_failureAt : Cond) ∈ wsA := inA (k := 416) (by decide +kernel) rfl
theorem q417 : (.code yX4_failureAt cX4_failureAt 2 (some .int) : Cond) ∈ wsA := inA (k := 417) (by decide +kernel) rfl
theorem q418 : (.classLink RX4 87 "java/lang/IndexOutOfBoundsException" : Cond) ∈ wsA := inA (k := 418) (by decide +kernel) rfl
theorem q419 : (.instantiable "java/lang/IndexOutOfBoundsException" 6 : Cond) ∈ wsA := inA (k := 419) (by decide +kernel) rfl
theorem q434 : (.methodLink RL 106 yL_copy : Cond) ∈ wsA := inA (k := 434) (by decide +kernel) rfl
theorem q435 : (.static yL_copy : Cond) ∈ wsA := inA (k := 435) (by decide +kernel) rfl
theorem q436 : (.codeWith yL_copy cL_copy 8 (some .int) [(0, 16, 19, 13)] : Cond) ∈ wsA := inA (k := 436) (by decide +kernel) rfl
theorem q437 : (.methodLink RL 28 yX4_copy : Cond) ∈ wsA := inA (k := 437) (by decide +kernel) rfl
theorem q438 : (.instanceMethod yX4_copy : Cond) ∈ wsA := inA (k := 438) (by decide +kernel) rfl
theorem q439 : (.selects RX4 yX4_copy yX4_copy : Cond) ∈ wsA := inA (k := 439) (by decide +kernel) rfl
theorem q440 : (.code yX4_copy cX4_copy 7 (some .int) : Cond) ∈ wsA := inA (k := 440) (by decide +kernel) rfl
theorem q441 : (.methodLink RX4 94 yX4_requireTransfer : Cond) ∈ wsA := inA (k := 441) (by decide +kernel) rfl
theorem q442 : (.static yX4_requireTransfer : Cond) ∈ wsA := inA (k := 442) (by decide +kernel) rfl
theorem q443 : (.code yX4_requireTransfer cX4_requireTransfer 4 (none : Option Jvm.ClassFile.FieldType) : Cond) ∈ wsA := inA (k := 443) (by decide +kernel) rfl
theorem q444 : (.methodLink RX4 232 yX4_isIn : Cond) ∈ wsA := inA (k := 444) (by decide +kernel) rfl
theorem q446 : (.methodLink RX4 98 yX4_outcomeOfTarget : Cond) ∈ wsA := inA (k := 446) (by decide +kernel) rfl
theorem q448 : (.instanceMethod yX4_outcomeOfTarget : Cond) ∈ wsA := inA (k := 448) (by decide +kernel) rfl
theorem q449 : (.code yX4_outcomeOfTarget cX4_outcomeOfTarget 6 (some .int) : Cond) ∈ wsA := inA (k := 449) (by decide +kernel) rfl
theorem q452 : (.instanceMethod yX3_fits : Cond) ∈ wsA := inA (k := 452) (by decide +kernel) rfl
theorem q453 : (.code yX3_fits cX3_fits 4 (some .boolean) : Cond) ∈ wsA := inA (k := 453) (by decide +kernel) rfl
theorem q455 : (.static yX4_moved : Cond) ∈ wsA := inA (k := 455) (by decide +kernel) rfl
theorem q456 : (.code yX4_moved cX4_moved 6 (some .int) : Cond) ∈ wsA := inA (k := 456) (by decide +kernel) rfl
theorem q457 : (.methodLink RX4 114 yX4_allowsTree : Cond) ∈ wsA := inA (k := 457) (by decide +kernel) rfl
theorem q459 : (.instanceMethod yX4_allowsTree : Cond) ∈ wsA := inA (k := 459) (by decide +kernel) rfl
theorem q460 : (.code yX4_allowsTree cX4_allowsTree 6 (some .boolean) : Cond) ∈ wsA := inA (k := 460) (by decide +kernel) rfl
theorem q463 : (.instanceMethod yX3_treeSize : Cond) ∈ wsA := inA (k := 463) (by decide +kernel) rfl
theorem q464 : (.code yX3_treeSize cX3_treeSize 4 (some .int) : Cond) ∈ wsA := inA (k := 464) (by decide +kernel) rfl
theorem q465 : (.methodLink RX4 105 yX4_removeTree : Cond) ∈ wsA := inA (k := 465) (by decide +kernel) rfl
theorem q467 : (.instanceMethod yX4_removeTree : Cond) ∈ wsA := inA (k := 467) (by decide +kernel) rfl
theorem q468 : (.code yX4_removeTree cX4_removeTree 2 (none : Option Jvm.ClassFile.FieldType) : Cond) ∈ wsA := inA (k := 468) (by decide +kernel) rfl
theorem q471 : (.instanceMethod yX3_appendCopyOfTree : Cond) ∈ wsA := inA (k := 471) (by decide +kernel) rfl
theorem q472 : (.code yX3_appendCopyOfTree cX3_appendCopyOfTree 6 (none : Option Jvm.ClassFile.FieldType) : Cond) ∈ wsA := inA (k := 472) (by decide +kernel) rfl
theorem q473 : (.methodLink RX3 54 yX3_append : Cond) ∈ wsA := inA (k := 473) (by decide +kernel) rfl
theorem q474 : (.methodLink RL 110 yL_move : Cond) ∈ wsA := inA (k := 474) (by decide +kernel) rfl
theorem q475 : (.static yL_move : Cond) ∈ wsA := inA (k := 475) (by decide +kernel) rfl
theorem q476 : (.codeWith yL_move cL_move 8 (some .int) [(0, 16, 19, 13)] : Cond) ∈ wsA := inA (k := 476) (by decide +kernel) rfl
theorem q477 : (.methodLink RL 32 yX4_move : Cond) ∈ wsA := inA (k := 477) (by decide +kernel) rfl
theorem q478 : (.instanceMethod yX4_move : Cond) ∈ wsA := inA (k := 478) (by decide +kernel) rfl
theorem q479 : (.selects RX4 yX4_move yX4_move : Cond) ∈ wsA := inA (k := 479) (by decide +kernel) rfl
theorem q480 : (.code yX4_move cX4_move 7 (some .int) : Cond) ∈ wsA := inA (k := 480) (by decide +kernel) rfl
theorem q481 : (.methodLink RX4 117 yX4_dropLocksOfTree : Cond) ∈ wsA := inA (k := 481) (by decide +kernel) rfl
theorem q483 : (.instanceMethod yX4_dropLocksOfTree : Cond) ∈ wsA := inA (k := 483) (by decide +kernel) rfl
theorem q484 : (.code yX4_dropLocksOfTree cX4_dropLocksOfTree 3 (none : Option Jvm.ClassFile.FieldType) : Cond) ∈ wsA := inA (k := 484) (by decide +kernel) rfl
theorem q487 : (.instanceMethod yX3_renameTree : Cond) ∈ wsA := inA (k := 487) (by decide +kernel) rfl
theorem q488 : (.code yX3_renameTree cX3_renameTree 4 (none : Option Jvm.ClassFile.FieldType) : Cond) ∈ wsA := inA (k := 488) (by decide +kernel) rfl
theorem q489 : (.methodLink RX3 57 yX3_placeMember : Cond) ∈ wsA := inA (k := 489) (by decide +kernel) rfl
theorem q491 : (.instanceMethod yX3_placeMember : Cond) ∈ wsA := inA (k := 491) (by decide +kernel) rfl
theorem q492 : (.code yX3_placeMember cX3_placeMember 5 (none : Option Jvm.ClassFile.FieldType) : Cond) ∈ wsA := inA (k := 492) (by decide +kernel) rfl
theorem q493 : (.methodLink RX3 68 yX3_shift : Cond) ∈ wsA := inA (k := 493) (by decide +kernel) rfl
theorem q495 : (.instanceMethod yX3_shift : Cond) ∈ wsA := inA (k := 495) (by decide +kernel) rfl
theorem q496 : (.code yX3_shift cX3_shift 5 (none : Option Jvm.ClassFile.FieldType) : Cond) ∈ wsA := inA (k := 496) (by decide +kernel) rfl
theorem q498 : (.methodLink RX3 71 yX3_memberIndex : Cond) ∈ wsA := inA (k := 498) (by decide +kernel) rfl
theorem q500 : (.instanceMethod yX3_memberIndex : Cond) ∈ wsA := inA (k := 500) (by decide +kernel) rfl
theorem q501 : (.code yX3_memberIndex cX3_memberIndex 5 (some .int) : Cond) ∈ wsA := inA (k := 501) (by decide +kernel) rfl
theorem q502 : (.methodLink RL 113 yL_kindOf : Cond) ∈ wsA := inA (k := 502) (by decide +kernel) rfl
theorem q503 : (.static yL_kindOf : Cond) ∈ wsA := inA (k := 503) (by decide +kernel) rfl
theorem q504 : (.codeWith yL_kindOf cL_kindOf 4 (some .int) [(0, 9, 12, 13)] : Cond) ∈ wsA := inA (k := 504) (by decide +kernel) rfl
theorem q505 : (.methodLink RL 35 yX4_kindOf : Cond) ∈ wsA := inA (k := 505) (by decide +kernel) rfl
theorem q506 : (.instanceMethod yX4_kindOf : Cond) ∈ wsA := inA (k := 506) (by decide +kernel) rfl
theorem q507 : (.selects RX4 yX4_kindOf yX4_kindOf : Cond) ∈ wsA := inA (k := 507) (by decide +kernel) rfl
theorem q508 : (.code yX4_kindOf cX4_kindOf 2 (some .int) : Cond) ∈ wsA := inA (k := 508) (by decide +kernel) rfl
theorem q510 : (.methodLink RL 116 yL_content : Cond) ∈ wsA := inA (k := 510) (by decide +kernel) rfl
theorem q511 : (.static yL_content : Cond) ∈ wsA := inA (k := 511) (by decide +kernel) rfl
theorem q512 : (.codeWith yL_content cL_content 4 (some .int) [(0, 9, 12, 13)] : Cond) ∈ wsA := inA (k := 512) (by decide +kernel) rfl
theorem q513 : (.methodLink RL 38 yX4_content : Cond) ∈ wsA := inA (k := 513) (by decide +kernel) rfl
theorem q514 : (.instanceMethod yX4_content : Cond) ∈ wsA := inA (k := 514) (by decide +kernel) rfl
theorem q515 : (.selects RX4 yX4_content yX4_content : Cond) ∈ wsA := inA (k := 515) (by decide +kernel) rfl
theorem q516 : (.code yX4_content cX4_content 3 (some .int) : Cond) ∈ wsA := inA (k := 516) (by decide +kernel) rfl
theorem q517 : (.methodLink RL 123 yL_members : Cond) ∈ wsA := inA (k := 517) (by decide +kernel) rfl
theorem q518 : (.static yL_members : Cond) ∈ wsA := inA (k := 518) (by decide +kernel) rfl
theorem q519 : (.codeWith yL_members cL_members 4 (some .int) [(0, 9, 12, 13)] : Cond) ∈ wsA := inA (k := 519) (by decide +kernel) rfl
theorem q520 : (.methodLink RL 41 yX4_members : Cond) ∈ wsA := inA (k := 520) (by decide +kernel) rfl
theorem q521 : (.instanceMethod yX4_members : Cond) ∈ wsA := inA (k := 521) (by decide +kernel) rfl
theorem q522 : (.selects RX4 yX4_members yX4_members : Cond) ∈ wsA := inA (k := 522) (by decide +kernel) rfl
theorem q523 : (.code yX4_members cX4_members 2 (some .int) : Cond) ∈ wsA := inA (k := 523) (by decide +kernel) rfl
theorem q526 : (.instanceMethod yX3_memberCount : Cond) ∈ wsA := inA (k := 526) (by decide +kernel) rfl
theorem q527 : (.code yX3_memberCount cX3_memberCount 4 (some .int) : Cond) ∈ wsA := inA (k := 527) (by decide +kernel) rfl
theorem q528 : (.methodLink RL 126 yL_memberAt : Cond) ∈ wsA := inA (k := 528) (by decide +kernel) rfl
theorem q529 : (.static yL_memberAt : Cond) ∈ wsA := inA (k := 529) (by decide +kernel) rfl
theorem q530 : (.codeWith yL_memberAt cL_memberAt 5 (some .int) [(0, 10, 13, 13), (0, 10, 17, 26)] : Cond) ∈ wsA := inA (k := 530) (by decide +kernel) rfl
theorem q531 : (.methodLink RL 44 yX4_memberAt : Cond) ∈ wsA := inA (k := 531) (by decide +kernel) rfl
theorem q532 : (.instanceMethod yX4_memberAt : Cond) ∈ wsA := inA (k := 532) (by decide +kernel) rfl
theorem q533 : (.selects RX4 yX4_memberAt yX4_memberAt : Cond) ∈ wsA := inA (k := 533) (by decide +kernel) rfl
theorem q534 : (.code yX4_memberAt cX4_memberAt 4 (some .int) : Cond) ∈ wsA := inA (k := 534) (by decide +kernel) rfl
theorem q537 : (.methodLink RL 130 yL_order : Cond) ∈ wsA := inA (k := 537) (by decide +kernel) rfl
theorem q538 : (.static yL_order : Cond) ∈ wsA := inA (k := 538) (by decide +kernel) rfl
theorem q539 : (.codeWith yL_order cL_order 7 (some .int) [(0, 14, 17, 13)] : Cond) ∈ wsA := inA (k := 539) (by decide +kernel) rfl
theorem q540 : (.methodLink RL 48 yX4_order : Cond) ∈ wsA := inA (k := 540) (by decide +kernel) rfl
theorem q541 : (.instanceMethod yX4_order : Cond) ∈ wsA := inA (k := 541) (by decide +kernel) rfl
theorem q542 : (.selects RX4 yX4_order yX4_order : Cond) ∈ wsA := inA (k := 542) (by decide +kernel) rfl
theorem q543 : (.code yX4_order cX4_order 5 (some .int) : Cond) ∈ wsA := inA (k := 543) (by decide +kernel) rfl
theorem q545 : (.methodLink RL 134 yL_lock : Cond) ∈ wsA := inA (k := 545) (by decide +kernel) rfl
theorem q546 : (.static yL_lock : Cond) ∈ wsA := inA (k := 546) (by decide +kernel) rfl
theorem q547 : (.codeWith yL_lock cL_lock 9 (some .int) [(0, 18, 21, 13), (0, 18, 25, 56)] : Cond) ∈ wsA := inA (k := 547) (by decide +kernel) rfl
theorem q548 : (.classLink RL 56 "java/lang/IllegalStateException" : Cond) ∈ wsA := inA (k := 548) (by decide +kernel) rfl
theorem q549 : (.methodLink RL 52 yX4_lock : Cond) ∈ wsA := inA (k := 549) (by decide +kernel) rfl
theorem q550 : (.instanceMethod yX4_lock : Cond) ∈ wsA := inA (k := 550) (by decide +kernel) rfl
theorem q551 : (.selects RX4 yX4_lock yX4_lock : Cond) ∈ wsA := inA (k := 551) (by decide +kernel) rfl
theorem q552 : (.code yX4_lock cX4_lock 7 (some .int) : Cond) ∈ wsA := inA (k := 552) (by decide +kernel) rfl
theorem q553 : (.classLink RX4 157 "java/lang/IllegalStateException" : Cond) ∈ wsA := inA (k := 553) (by decide +kernel) rfl
theorem q554 : (.instantiable "java/lang/IllegalStateException" 6 : Cond) ∈ wsA := inA (k := 554) (by decide +kernel) rfl
theorem q571 : (.instanceMethod yX1_bar : Cond) ∈ wsA := inA (k := 571) (by decide +kernel) rfl
theorem q572 : (.code yX1_bar cX1_bar 6 (some .boolean) : Cond) ∈ wsA := inA (k := 572) (by decide +kernel) rfl
theorem q578 : (.instanceMethod yX1_add : Cond) ∈ wsA := inA (k := 578) (by decide +kernel) rfl
theorem q579 : (.code yX1_add cX1_add 7 (some .int) : Cond) ∈ wsA := inA (k := 579) (by decide +kernel) rfl
theorem q580 : (.methodLink RL 138 yL_refresh : Cond) ∈ wsA := inA (k := 580) (by decide +kernel) rfl
theorem q581 : (.static yL_refresh : Cond) ∈ wsA := inA (k := 581) (by decide +kernel) rfl
theorem q582 : (.codeWith yL_refresh cL_refresh 6 (some .int) [(0, 12, 15, 26), (0, 12, 19, 13), (0, 12, 23, 56)] : Cond) ∈ wsA := inA (k := 582) (by decide +kernel) rfl
theorem q583 : (.methodLink RL 58 yX4_refresh : Cond) ∈ wsA := inA (k := 583) (by decide +kernel) rfl
theorem q584 : (.instanceMethod yX4_refresh : Cond) ∈ wsA := inA (k := 584) (by decide +kernel) rfl
theorem q585 : (.selects RX4 yX4_refresh yX4_refresh : Cond) ∈ wsA := inA (k := 585) (by decide +kernel) rfl
theorem q586 : (.code yX4_refresh cX4_refresh 6 (some .int) : Cond) ∈ wsA := inA (k := 586) (by decide +kernel) rfl
theorem q590 : (.methodLink RL 141 yL_pass : Cond) ∈ wsA := inA (k := 590) (by decide +kernel) rfl
theorem q591 : (.static yL_pass : Cond) ∈ wsA := inA (k := 591) (by decide +kernel) rfl
theorem q592 : (.codeWith yL_pass cL_pass 4 (some .int) [(0, 9, 12, 13), (0, 9, 15, 56)] : Cond) ∈ wsA := inA (k := 592) (by decide +kernel) rfl
theorem q593 : (.methodLink RL 61 yX4_pass : Cond) ∈ wsA := inA (k := 593) (by decide +kernel) rfl
theorem q594 : (.instanceMethod yX4_pass : Cond) ∈ wsA := inA (k := 594) (by decide +kernel) rfl
theorem q595 : (.selects RX4 yX4_pass yX4_pass : Cond) ∈ wsA := inA (k := 595) (by decide +kernel) rfl
theorem q596 : (.code yX4_pass cX4_pass 2 (some .int) : Cond) ∈ wsA := inA (k := 596) (by decide +kernel) rfl
theorem q597 : (.constant RX4 192 (1000000 : Int32) : Cond) ∈ wsA := inA (k := 597) (by decide +kernel) rfl
theorem q601 : (.instanceMethod yX1_advance : Cond) ∈ wsA := inA (k := 601) (by decide +kernel) rfl
theorem q602 : (.code yX1_advance cX1_advance 6 (some .int) : Cond) ∈ wsA := inA (k := 602) (by decide +kernel) rfl
theorem q603 : (.methodLink RL 144 yL_covering : Cond) ∈ wsA := inA (k := 603) (by decide +kernel) rfl
theorem q604 : (.static yL_covering : Cond) ∈ wsA := inA (k := 604) (by decide +kernel) rfl
theorem q605 : (.codeWith yL_covering cL_covering 4 (some .int) [(0, 9, 12, 13)] : Cond) ∈ wsA := inA (k := 605) (by decide +kernel) rfl
theorem q606 : (.methodLink RL 64 yX4_covering : Cond) ∈ wsA := inA (k := 606) (by decide +kernel) rfl
theorem q607 : (.instanceMethod yX4_covering : Cond) ∈ wsA := inA (k := 607) (by decide +kernel) rfl
theorem q608 : (.selects RX4 yX4_covering yX4_covering : Cond) ∈ wsA := inA (k := 608) (by decide +kernel) rfl
theorem q609 : (.code yX4_covering cX4_covering 2 (some .int) : Cond) ∈ wsA := inA (k := 609) (by decide +kernel) rfl
theorem q611 : (.methodLink RL 147 yL_mayChange : Cond) ∈ wsA := inA (k := 611) (by decide +kernel) rfl
theorem q612 : (.static yL_mayChange : Cond) ∈ wsA := inA (k := 612) (by decide +kernel) rfl
theorem q613 : (.codeWith yL_mayChange cL_mayChange 6 (some .int) [(0, 19, 22, 13)] : Cond) ∈ wsA := inA (k := 613) (by decide +kernel) rfl
theorem q614 : (.methodLink RL 67 yX4_mayChange : Cond) ∈ wsA := inA (k := 614) (by decide +kernel) rfl
theorem q615 : (.instanceMethod yX4_mayChange : Cond) ∈ wsA := inA (k := 615) (by decide +kernel) rfl
theorem q616 : (.selects RX4 yX4_mayChange yX4_mayChange : Cond) ∈ wsA := inA (k := 616) (by decide +kernel) rfl
theorem q617 : (.code yX4_mayChange cX4_mayChange 4 (some .boolean) : Cond) ∈ wsA := inA (k := 617) (by decide +kernel) rfl
theorem q618 : (.methodLink RL 150 yL_keep : Cond) ∈ wsA := inA (k := 618) (by decide +kernel) rfl
theorem q619 : (.static yL_keep : Cond) ∈ wsA := inA (k := 619) (by decide +kernel) rfl
theorem q620 : (.codeWith yL_keep cL_keep 4 (some .int) [(0, 9, 12, 13), (0, 9, 15, 56)] : Cond) ∈ wsA := inA (k := 620) (by decide +kernel) rfl
theorem q621 : (.methodLink RL 71 yX4_keep : Cond) ∈ wsA := inA (k := 621) (by decide +kernel) rfl
theorem q622 : (.instanceMethod yX4_keep : Cond) ∈ wsA := inA (k := 622) (by decide +kernel) rfl
theorem q623 : (.selects RX4 yX4_keep yX4_keep : Cond) ∈ wsA := inA (k := 623) (by decide +kernel) rfl
theorem q624 : (.code yX4_keep cX4_keep 3 (some .int) : Cond) ∈ wsA := inA (k := 624) (by decide +kernel) rfl
theorem q629 : (.instanceMethod yX2_addVersion : Cond) ∈ wsA := inA (k := 629) (by decide +kernel) rfl
theorem q630 : (.code yX2_addVersion cX2_addVersion 1 (some .int) : Cond) ∈ wsA := inA (k := 630) (by decide +kernel) rfl
theorem q631 : (.methodLink RL 153 yL_restore : Cond) ∈ wsA := inA (k := 631) (by decide +kernel) rfl
theorem q632 : (.static yL_restore : Cond) ∈ wsA := inA (k := 632) (by decide +kernel) rfl
theorem q633 : (.codeWith yL_restore cL_restore 7 (some .int) [(0, 14, 17, 13)] : Cond) ∈ wsA := inA (k := 633) (by decide +kernel) rfl
theorem q634 : (.methodLink RL 74 yX4_restore : Cond) ∈ wsA := inA (k := 634) (by decide +kernel) rfl
theorem q635 : (.instanceMethod yX4_restore : Cond) ∈ wsA := inA (k := 635) (by decide +kernel) rfl
theorem q636 : (.selects RX4 yX4_restore yX4_restore : Cond) ∈ wsA := inA (k := 636) (by decide +kernel) rfl
theorem q637 : (.code yX4_restore cX4_restore 6 (some .int) : Cond) ∈ wsA := inA (k := 637) (by decide +kernel) rfl
theorem q640 : (.instanceMethod yX2_hasVersion : Cond) ∈ wsA := inA (k := 640) (by decide +kernel) rfl
theorem q641 : (.code yX2_hasVersion cX2_hasVersion 2 (some .boolean) : Cond) ∈ wsA := inA (k := 641) (by decide +kernel) rfl
theorem q644 : (.instanceMethod yX2_takeVersion : Cond) ∈ wsA := inA (k := 644) (by decide +kernel) rfl
theorem q645 : (.code yX2_takeVersion cX2_takeVersion 2 (none : Option Jvm.ClassFile.FieldType) : Cond) ∈ wsA := inA (k := 645) (by decide +kernel) rfl
theorem q646 : (.methodLink RX2 32 yX2_hasVersion : Cond) ∈ wsA := inA (k := 646) (by decide +kernel) rfl
theorem q647 : (.classLink RL 78 RX5 : Cond) ∈ wsA := inA (k := 647) (by decide +kernel) rfl
theorem q648 : (.instantiable RX5 20 : Cond) ∈ wsA := inA (k := 648) (by decide +kernel) rfl
theorem q649 : (.methodLink RL 80 yX5_init : Cond) ∈ wsA := inA (k := 649) (by decide +kernel) rfl
theorem q650 : (.instanceMethod yX5_init : Cond) ∈ wsA := inA (k := 650) (by decide +kernel) rfl
theorem q651 : (.code yX5_init cX5_init 1 (none : Option Jvm.ClassFile.FieldType) : Cond) ∈ wsA := inA (k := 651) (by decide +kernel) rfl
theorem q652 : (.methodLink RX5 1 objectInit : Cond) ∈ wsA := inA (k := 652) (by decide +kernel) rfl
theorem q653 : (.fieldLink RX5 7 "ShelfServerModel" "used" "[Z" : Cond) ∈ wsA := inA (k := 653) (by decide +kernel) rfl
theorem q654 : (.fieldLink RX5 13 "ShelfServerModel" "path" "[I" : Cond) ∈ wsA := inA (k := 654) (by decide +kernel) rfl
theorem q655 : (.fieldLink RX5 17 "ShelfServerModel" "kind" "[I" : Cond) ∈ wsA := inA (k := 655) (by decide +kernel) rfl
theorem q656 : (.fieldLink RX5 20 "ShelfServerModel" "content" "[I" : Cond) ∈ wsA := inA (k := 656) (by decide +kernel) rfl
theorem q657 : (.fieldLink RX5 23 "ShelfServerModel" "rank" "[I" : Cond) ∈ wsA := inA (k := 657) (by decide +kernel) rfl
theorem q658 : (.fieldLink RX5 82 "ShelfServerModel" "ranks" "I" : Cond) ∈ wsA := inA (k := 658) (by decide +kernel) rfl
theorem q659 : (.fieldLink RX5 26 "ShelfServerModel" "versions" "[I" : Cond) ∈ wsA := inA (k := 659) (by decide +kernel) rfl
theorem q660 : (.fieldLink RX5 29 "ShelfServerModel" "kept" "[I" : Cond) ∈ wsA := inA (k := 660) (by decide +kernel) rfl
theorem q661 : (.fieldLink RX5 88 "ShelfServerModel" "time" "I" : Cond) ∈ wsA := inA (k := 661) (by decide +kernel) rfl
theorem q662 : (.fieldLink RX5 85 "ShelfServerModel" "locks" "I" : Cond) ∈ wsA := inA (k := 662) (by decide +kernel) rfl
theorem q663 : (.fieldLink RX5 32 "ShelfServerModel" "owner" "[I" : Cond) ∈ wsA := inA (k := 663) (by decide +kernel) rfl
theorem q664 : (.fieldLink RX5 35 "ShelfServerModel" "spot" "[I" : Cond) ∈ wsA := inA (k := 664) (by decide +kernel) rfl
theorem q665 : (.fieldLink RX5 38 "ShelfServerModel" "shared" "[Z" : Cond) ∈ wsA := inA (k := 665) (by decide +kernel) rfl
theorem q666 : (.fieldLink RX5 41 "ShelfServerModel" "deep" "[Z" : Cond) ∈ wsA := inA (k := 666) (by decide +kernel) rfl
theorem q667 : (.fieldLink RX5 44 "ShelfServerModel" "end" "[I" : Cond) ∈ wsA := inA (k := 667) (by decide +kernel) rfl
theorem q668 : (.fieldLink RX5 127 "ShelfServerModel" "failures" "I" : Cond) ∈ wsA := inA (k := 668) (by decide +kernel) rfl
theorem q669 : (.fieldLink RX5 47 "ShelfServerModel" "failed" "[I" : Cond) ∈ wsA := inA (k := 669) (by decide +kernel) rfl
theorem q670 : (.fieldLink RX5 50 "ShelfServerModel" "marked" "[Z" : Cond) ∈ wsA := inA (k := 670) (by decide +kernel) rfl
theorem q671 : (.fieldLink RX5 53 "ShelfServerModel" "fixed" "[Z" : Cond) ∈ wsA := inA (k := 671) (by decide +kernel) rfl
theorem q672 : (.fieldLink RX5 56 "ShelfServerModel" "thrown" "I" : Cond) ∈ wsA := inA (k := 672) (by decide +kernel) rfl
theorem q714 : (.arrayClass .boolean : Cond) ∈ wsA := inA (k := 714) (by decide +kernel) rfl
theorem q715 : (.methodLink RL 87 yX5_thrown : Cond) ∈ wsA := inA (k := 715) (by decide +kernel) rfl
theorem q716 : (.instanceMethod yX5_thrown : Cond) ∈ wsA := inA (k := 716) (by decide +kernel) rfl
theorem q717 : (.selects RX5 yX5_thrown yX5_thrown : Cond) ∈ wsA := inA (k := 717) (by decide +kernel) rfl
theorem q718 : (.code yX5_thrown cX5_thrown 1 (some .int) : Cond) ∈ wsA := inA (k := 718) (by decide +kernel) rfl
theorem q719 : (.methodLink RL 86 yX5_makeCollection : Cond) ∈ wsA := inA (k := 719) (by decide +kernel) rfl
theorem q720 : (.instanceMethod yX5_makeCollection : Cond) ∈ wsA := inA (k := 720) (by decide +kernel) rfl
theorem q721 : (.selects RX5 yX5_makeCollection yX5_makeCollection : Cond) ∈ wsA := inA (k := 721) (by decide +kernel) rfl
theorem q722 : (.code yX5_makeCollection cX5_makeCollection 5 (some .int) : Cond) ∈ wsA := inA (k := 722) (by decide +kernel) rfl
theorem q723 : (.methodLink RX5 106 yX5_isRight : Cond) ∈ wsA := inA (k := 723) (by decide +kernel) rfl
theorem q725 : (.instanceMethod yX5_isRight : Cond) ∈ wsA := inA (k := 725) (by decide +kernel) rfl
theorem q726 : (.code yX5_isRight cX5_isRight 4 (some .boolean) : Cond) ∈ wsA := inA (k := 726) (by decide +kernel) rfl
theorem q727 : (.methodLink RX5 68 yX5_isClient : Cond) ∈ wsA := inA (k := 727) (by decide +kernel) rfl
theorem q728 : (.static yX5_isClient : Cond) ∈ wsA := inA (k := 728) (by decide +kernel) rfl
theorem q729 : (.code yX5_isClient cX5_isClient 1 (some .boolean) : Cond) ∈ wsA := inA (k := 729) (by decide +kernel) rfl
theorem q730 : (.methodLink RX5 60 yX5_isIn : Cond) ∈ wsA := inA (k := 730) (by decide +kernel) rfl
theorem q731 : (.static yX5_isIn : Cond) ∈ wsA := inA (k := 731) (by decide +kernel) rfl
theorem q732 : (.code yX5_isIn cX5_isIn 3 (some .boolean) : Cond) ∈ wsA := inA (k := 732) (by decide +kernel) rfl
theorem q733 : (.methodLink RX5 71 yX5_isName : Cond) ∈ wsA := inA (k := 733) (by decide +kernel) rfl
theorem q734 : (.static yX5_isName : Cond) ∈ wsA := inA (k := 734) (by decide +kernel) rfl
theorem q735 : (.code yX5_isName cX5_isName 1 (some .boolean) : Cond) ∈ wsA := inA (k := 735) (by decide +kernel) rfl
theorem q736 : (.methodLink RX5 64 yX5_isPath : Cond) ∈ wsA := inA (k := 736) (by decide +kernel) rfl
theorem q737 : (.static yX5_isPath : Cond) ∈ wsA := inA (k := 737) (by decide +kernel) rfl
theorem q738 : (.code yX5_isPath cX5_isPath 3 (some .boolean) : Cond) ∈ wsA := inA (k := 738) (by decide +kernel) rfl
theorem q739 : (.methodLink RX5 109 yX5_kinds : Cond) ∈ wsA := inA (k := 739) (by decide +kernel) rfl
theorem q741 : (.instanceMethod yX5_kinds : Cond) ∈ wsA := inA (k := 741) (by decide +kernel) rfl
theorem q742 : (.code yX5_kinds cX5_kinds 3 (some .int) : Cond) ∈ wsA := inA (k := 742) (by decide +kernel) rfl
theorem q743 : (.methodLink RX5 74 yX5_place : Cond) ∈ wsA := inA (k := 743) (by decide +kernel) rfl
theorem q745 : (.instanceMethod yX5_place : Cond) ∈ wsA := inA (k := 745) (by decide +kernel) rfl
theorem q746 : (.code yX5_place cX5_place 4 (some .int) : Cond) ∈ wsA := inA (k := 746) (by decide +kernel) rfl
theorem q747 : (.methodLink RX5 112 yX5_mayMake : Cond) ∈ wsA := inA (k := 747) (by decide +kernel) rfl
theorem q749 : (.instanceMethod yX5_mayMake : Cond) ∈ wsA := inA (k := 749) (by decide +kernel) rfl
theorem q750 : (.code yX5_mayMake cX5_mayMake 4 (some .boolean) : Cond) ∈ wsA := inA (k := 750) (by decide +kernel) rfl
theorem q751 : (.methodLink RX5 103 yX5_may : Cond) ∈ wsA := inA (k := 751) (by decide +kernel) rfl
theorem q753 : (.instanceMethod yX5_may : Cond) ∈ wsA := inA (k := 753) (by decide +kernel) rfl
theorem q754 : (.code yX5_may cX5_may 7 (some .boolean) : Cond) ∈ wsA := inA (k := 754) (by decide +kernel) rfl
theorem q755 : (.methodLink RX5 97 yX5_set : Cond) ∈ wsA := inA (k := 755) (by decide +kernel) rfl
theorem q757 : (.instanceMethod yX5_set : Cond) ∈ wsA := inA (k := 757) (by decide +kernel) rfl
theorem q758 : (.code yX5_set cX5_set 4 (some .int) : Cond) ∈ wsA := inA (k := 758) (by decide +kernel) rfl
theorem q759 : (.methodLink RX5 94 yX5_covers : Cond) ∈ wsA := inA (k := 759) (by decide +kernel) rfl
theorem q761 : (.instanceMethod yX5_covers : Cond) ∈ wsA := inA (k := 761) (by decide +kernel) rfl
theorem q762 : (.code yX5_covers cX5_covers 3 (some .boolean) : Cond) ∈ wsA := inA (k := 762) (by decide +kernel) rfl
theorem q763 : (.methodLink RX5 91 yX5_isOn : Cond) ∈ wsA := inA (k := 763) (by decide +kernel) rfl
theorem q765 : (.instanceMethod yX5_isOn : Cond) ∈ wsA := inA (k := 765) (by decide +kernel) rfl
theorem q766 : (.code yX5_isOn cX5_isOn 2 (some .boolean) : Cond) ∈ wsA := inA (k := 766) (by decide +kernel) rfl
theorem q767 : (.methodLink RX5 78 yX5_isAbove : Cond) ∈ wsA := inA (k := 767) (by decide +kernel) rfl
theorem q768 : (.static yX5_isAbove : Cond) ∈ wsA := inA (k := 768) (by decide +kernel) rfl
theorem q769 : (.code yX5_isAbove cX5_isAbove 3 (some .boolean) : Cond) ∈ wsA := inA (k := 769) (by decide +kernel) rfl
theorem q770 : (.methodLink RX5 115 yX5_count : Cond) ∈ wsA := inA (k := 770) (by decide +kernel) rfl
theorem q772 : (.instanceMethod yX5_count : Cond) ∈ wsA := inA (k := 772) (by decide +kernel) rfl
theorem q773 : (.code yX5_count cX5_count 3 (some .int) : Cond) ∈ wsA := inA (k := 773) (by decide +kernel) rfl
theorem q774 : (.methodLink RX5 119 yX5_makes : Cond) ∈ wsA := inA (k := 774) (by decide +kernel) rfl
theorem q776 : (.instanceMethod yX5_makes : Cond) ∈ wsA := inA (k := 776) (by decide +kernel) rfl
theorem q777 : (.code yX5_makes cX5_makes 5 (some .int) : Cond) ∈ wsA := inA (k := 777) (by decide +kernel) rfl
theorem q778 : (.methodLink RL 94 yX5_put : Cond) ∈ wsA := inA (k := 778) (by decide +kernel) rfl
theorem q779 : (.instanceMethod yX5_put : Cond) ∈ wsA := inA (k := 779) (by decide +kernel) rfl
theorem q780 : (.selects RX5 yX5_put yX5_put : Cond) ∈ wsA := inA (k := 780) (by decide +kernel) rfl
theorem q781 : (.code yX5_put cX5_put 9 (some .int) : Cond) ∈ wsA := inA (k := 781) (by decide +kernel) rfl
theorem q782 : (.methodLink RX5 123 yX5_puts : Cond) ∈ wsA := inA (k := 782) (by decide +kernel) rfl
theorem q784 : (.instanceMethod yX5_puts : Cond) ∈ wsA := inA (k := 784) (by decide +kernel) rfl
theorem q785 : (.code yX5_puts cX5_puts 8 (some .int) : Cond) ∈ wsA := inA (k := 785) (by decide +kernel) rfl
theorem q786 : (.methodLink RL 97 yX5_delete : Cond) ∈ wsA := inA (k := 786) (by decide +kernel) rfl
theorem q787 : (.instanceMethod yX5_delete : Cond) ∈ wsA := inA (k := 787) (by decide +kernel) rfl
theorem q788 : (.selects RX5 yX5_delete yX5_delete : Cond) ∈ wsA := inA (k := 788) (by decide +kernel) rfl
theorem q789 : (.code yX5_delete cX5_delete 7 (some .int) : Cond) ∈ wsA := inA (k := 789) (by decide +kernel) rfl
theorem q790 : (.methodLink RX5 100 yX5_isOf : Cond) ∈ wsA := inA (k := 790) (by decide +kernel) rfl
theorem q792 : (.instanceMethod yX5_isOf : Cond) ∈ wsA := inA (k := 792) (by decide +kernel) rfl
theorem q793 : (.code yX5_isOf cX5_isOf 3 (some .boolean) : Cond) ∈ wsA := inA (k := 793) (by decide +kernel) rfl
theorem q794 : (.methodLink RX5 130 yX5_goes : Cond) ∈ wsA := inA (k := 794) (by decide +kernel) rfl
theorem q796 : (.instanceMethod yX5_goes : Cond) ∈ wsA := inA (k := 796) (by decide +kernel) rfl
theorem q797 : (.code yX5_goes cX5_goes 3 (none : Option Jvm.ClassFile.FieldType) : Cond) ∈ wsA := inA (k := 797) (by decide +kernel) rfl
theorem q798 : (.methodLink RL 101 yX5_failures : Cond) ∈ wsA := inA (k := 798) (by decide +kernel) rfl
theorem q799 : (.instanceMethod yX5_failures : Cond) ∈ wsA := inA (k := 799) (by decide +kernel) rfl
theorem q800 : (.selects RX5 yX5_failures yX5_failures : Cond) ∈ wsA := inA (k := 800) (by decide +kernel) rfl
theorem q801 : (.code yX5_failures cX5_failures 1 (some .int) : Cond) ∈ wsA := inA (k := 801) (by decide +kernel) rfl
theorem q802 : (.methodLink RL 105 yX5_failureAt : Cond) ∈ wsA := inA (k := 802) (by decide +kernel) rfl
theorem q803 : (.instanceMethod yX5_failureAt : Cond) ∈ wsA := inA (k := 803) (by decide +kernel) rfl
theorem q804 : (.selects RX5 yX5_failureAt yX5_failureAt : Cond) ∈ wsA := inA (k := 804) (by decide +kernel) rfl
theorem q805 : (.code yX5_failureAt cX5_failureAt 6 (some .int) : Cond) ∈ wsA := inA (k := 805) (by decide +kernel) rfl
theorem q806 : (.methodLink RL 109 yX5_copy : Cond) ∈ wsA := inA (k := 806) (by decide +kernel) rfl
theorem q807 : (.instanceMethod yX5_copy : Cond) ∈ wsA := inA (k := 807) (by decide +kernel) rfl
theorem q808 : (.selects RX5 yX5_copy yX5_copy : Cond) ∈ wsA := inA (k := 808) (by decide +kernel) rfl
theorem q809 : (.code yX5_copy cX5_copy 6 (some .int) : Cond) ∈ wsA := inA (k := 809) (by decide +kernel) rfl
theorem q810 : (.methodLink RX5 151 yX5_brings : Cond) ∈ wsA := inA (k := 810) (by decide +kernel) rfl
theorem q812 : (.instanceMethod yX5_brings : Cond) ∈ wsA := inA (k := 812) (by decide +kernel) rfl
theorem q813 : (.code yX5_brings cX5_brings 13 (some .int) : Cond) ∈ wsA := inA (k := 813) (by decide +kernel) rfl
theorem q814 : (.methodLink RX5 134 yX5_digits : Cond) ∈ wsA := inA (k := 814) (by decide +kernel) rfl
theorem q815 : (.static yX5_digits : Cond) ∈ wsA := inA (k := 815) (by decide +kernel) rfl
theorem q816 : (.code yX5_digits cX5_digits 1 (some .int) : Cond) ∈ wsA := inA (k := 816) (by decide +kernel) rfl
theorem q817 : (.methodLink RX5 137 yX5_mayAll : Cond) ∈ wsA := inA (k := 817) (by decide +kernel) rfl
theorem q819 : (.instanceMethod yX5_mayAll : Cond) ∈ wsA := inA (k := 819) (by decide +kernel) rfl
theorem q820 : (.code yX5_mayAll cX5_mayAll 6 (some .boolean) : Cond) ∈ wsA := inA (k := 820) (by decide +kernel) rfl
theorem q821 : (.methodLink RX5 140 yX5_carries : Cond) ∈ wsA := inA (k := 821) (by decide +kernel) rfl
theorem q823 : (.instanceMethod yX5_carries : Cond) ∈ wsA := inA (k := 823) (by decide +kernel) rfl
theorem q824 : (.code yX5_carries cX5_carries 7 (none : Option Jvm.ClassFile.FieldType) : Cond) ∈ wsA := inA (k := 824) (by decide +kernel) rfl
theorem q825 : (.methodLink RX5 144 yX5_lowest : Cond) ∈ wsA := inA (k := 825) (by decide +kernel) rfl
theorem q827 : (.instanceMethod yX5_lowest : Cond) ∈ wsA := inA (k := 827) (by decide +kernel) rfl
theorem q828 : (.code yX5_lowest cX5_lowest 3 (some .int) : Cond) ∈ wsA := inA (k := 828) (by decide +kernel) rfl
theorem q829 : (.methodLink RX5 147 yX5_power : Cond) ∈ wsA := inA (k := 829) (by decide +kernel) rfl
theorem q830 : (.static yX5_power : Cond) ∈ wsA := inA (k := 830) (by decide +kernel) rfl
theorem q831 : (.code yX5_power cX5_power 4 (some .int) : Cond) ∈ wsA := inA (k := 831) (by decide +kernel) rfl
theorem q832 : (.methodLink RL 112 yX5_move : Cond) ∈ wsA := inA (k := 832) (by decide +kernel) rfl
theorem q833 : (.instanceMethod yX5_move : Cond) ∈ wsA := inA (k := 833) (by decide +kernel) rfl
theorem q834 : (.selects RX5 yX5_move yX5_move : Cond) ∈ wsA := inA (k := 834) (by decide +kernel) rfl
theorem q835 : (.code yX5_move cX5_move 6 (some .int) : Cond) ∈ wsA := inA (k := 835) (by decide +kernel) rfl
theorem q836 : (.methodLink RL 115 yX5_kindOf : Cond) ∈ wsA := inA (k := 836) (by decide +kernel) rfl
theorem q837 : (.instanceMethod yX5_kindOf : Cond) ∈ wsA := inA (k := 837) (by decide +kernel) rfl
theorem q838 : (.selects RX5 yX5_kindOf yX5_kindOf : Cond) ∈ wsA := inA (k := 838) (by decide +kernel) rfl
theorem q839 : (.code yX5_kindOf cX5_kindOf 2 (some .int) : Cond) ∈ wsA := inA (k := 839) (by decide +kernel) rfl
theorem q840 : (.methodLink RX5 155 yX5_asks : Cond) ∈ wsA := inA (k := 840) (by decide +kernel) rfl
theorem q842 : (.instanceMethod yX5_asks : Cond) ∈ wsA := inA (k := 842) (by decide +kernel) rfl
theorem q843 : (.code yX5_asks cX5_asks 2 (some .boolean) : Cond) ∈ wsA := inA (k := 843) (by decide +kernel) rfl
theorem q844 : (.methodLink RL 118 yX5_content : Cond) ∈ wsA := inA (k := 844) (by decide +kernel) rfl
theorem q845 : (.instanceMethod yX5_content : Cond) ∈ wsA := inA (k := 845) (by decide +kernel) rfl
theorem q846 : (.selects RX5 yX5_content yX5_content : Cond) ∈ wsA := inA (k := 846) (by decide +kernel) rfl
theorem q847 : (.code yX5_content cX5_content 2 (some .int) : Cond) ∈ wsA := inA (k := 847) (by decide +kernel) rfl
theorem q848 : (.methodLink RL 122 yX5_resources : Cond) ∈ wsA := inA (k := 848) (by decide +kernel) rfl
theorem q849 : (.instanceMethod yX5_resources : Cond) ∈ wsA := inA (k := 849) (by decide +kernel) rfl
theorem q850 : (.selects RX5 yX5_resources yX5_resources : Cond) ∈ wsA := inA (k := 850) (by decide +kernel) rfl
theorem q851 : (.code yX5_resources cX5_resources 1 (some .int) : Cond) ∈ wsA := inA (k := 851) (by decide +kernel) rfl
theorem q852 : (.methodLink RL 125 yX5_members : Cond) ∈ wsA := inA (k := 852) (by decide +kernel) rfl
theorem q853 : (.instanceMethod yX5_members : Cond) ∈ wsA := inA (k := 853) (by decide +kernel) rfl
theorem q854 : (.selects RX5 yX5_members yX5_members : Cond) ∈ wsA := inA (k := 854) (by decide +kernel) rfl
theorem q855 : (.code yX5_members cX5_members 2 (some .int) : Cond) ∈ wsA := inA (k := 855) (by decide +kernel) rfl
theorem q856 : (.methodLink RX5 161 yX5_membersOf : Cond) ∈ wsA := inA (k := 856) (by decide +kernel) rfl
theorem q858 : (.instanceMethod yX5_membersOf : Cond) ∈ wsA := inA (k := 858) (by decide +kernel) rfl
theorem q859 : (.code yX5_membersOf cX5_membersOf 4 (some .int) : Cond) ∈ wsA := inA (k := 859) (by decide +kernel) rfl
theorem q860 : (.methodLink RX5 158 yX5_isMember : Cond) ∈ wsA := inA (k := 860) (by decide +kernel) rfl
theorem q862 : (.instanceMethod yX5_isMember : Cond) ∈ wsA := inA (k := 862) (by decide +kernel) rfl
theorem q863 : (.code yX5_isMember cX5_isMember 3 (some .boolean) : Cond) ∈ wsA := inA (k := 863) (by decide +kernel) rfl
theorem q864 : (.methodLink RL 129 yX5_memberAt : Cond) ∈ wsA := inA (k := 864) (by decide +kernel) rfl
theorem q865 : (.instanceMethod yX5_memberAt : Cond) ∈ wsA := inA (k := 865) (by decide +kernel) rfl
theorem q866 : (.selects RX5 yX5_memberAt yX5_memberAt : Cond) ∈ wsA := inA (k := 866) (by decide +kernel) rfl
theorem q867 : (.code yX5_memberAt cX5_memberAt 4 (some .int) : Cond) ∈ wsA := inA (k := 867) (by decide +kernel) rfl
theorem q868 : (.methodLink RX5 164 yX5_memberOf : Cond) ∈ wsA := inA (k := 868) (by decide +kernel) rfl
theorem q870 : (.instanceMethod yX5_memberOf : Cond) ∈ wsA := inA (k := 870) (by decide +kernel) rfl
theorem q871 : (.code yX5_memberOf cX5_memberOf 7 (some .int) : Cond) ∈ wsA := inA (k := 871) (by decide +kernel) rfl
theorem q872 : (.methodLink RL 133 yX5_order : Cond) ∈ wsA := inA (k := 872) (by decide +kernel) rfl
theorem q873 : (.instanceMethod yX5_order : Cond) ∈ wsA := inA (k := 873) (by decide +kernel) rfl
theorem q874 : (.selects RX5 yX5_order yX5_order : Cond) ∈ wsA := inA (k := 874) (by decide +kernel) rfl
theorem q875 : (.code yX5_order cX5_order 11 (some .int) : Cond) ∈ wsA := inA (k := 875) (by decide +kernel) rfl
theorem q876 : (.methodLink RL 137 yX5_lock : Cond) ∈ wsA := inA (k := 876) (by decide +kernel) rfl
theorem q877 : (.instanceMethod yX5_lock : Cond) ∈ wsA := inA (k := 877) (by decide +kernel) rfl
theorem q878 : (.selects RX5 yX5_lock yX5_lock : Cond) ∈ wsA := inA (k := 878) (by decide +kernel) rfl
theorem q879 : (.code yX5_lock cX5_lock 9 (some .int) : Cond) ∈ wsA := inA (k := 879) (by decide +kernel) rfl
theorem q880 : (.methodLink RX5 167 yX5_clashes : Cond) ∈ wsA := inA (k := 880) (by decide +kernel) rfl
theorem q882 : (.instanceMethod yX5_clashes : Cond) ∈ wsA := inA (k := 882) (by decide +kernel) rfl
theorem q883 : (.code yX5_clashes cX5_clashes 7 (some .boolean) : Cond) ∈ wsA := inA (k := 883) (by decide +kernel) rfl
theorem q884 : (.methodLink RL 140 yX5_refresh : Cond) ∈ wsA := inA (k := 884) (by decide +kernel) rfl
theorem q885 : (.instanceMethod yX5_refresh : Cond) ∈ wsA := inA (k := 885) (by decide +kernel) rfl
theorem q886 : (.selects RX5 yX5_refresh yX5_refresh : Cond) ∈ wsA := inA (k := 886) (by decide +kernel) rfl
theorem q887 : (.code yX5_refresh cX5_refresh 5 (some .int) : Cond) ∈ wsA := inA (k := 887) (by decide +kernel) rfl
theorem q888 : (.methodLink RL 143 yX5_pass : Cond) ∈ wsA := inA (k := 888) (by decide +kernel) rfl
theorem q889 : (.instanceMethod yX5_pass : Cond) ∈ wsA := inA (k := 889) (by decide +kernel) rfl
theorem q890 : (.selects RX5 yX5_pass yX5_pass : Cond) ∈ wsA := inA (k := 890) (by decide +kernel) rfl
theorem q891 : (.code yX5_pass cX5_pass 4 (some .int) : Cond) ∈ wsA := inA (k := 891) (by decide +kernel) rfl
theorem q892 : (.constant RX5 171 (1000000 : Int32) : Cond) ∈ wsA := inA (k := 892) (by decide +kernel) rfl
theorem q893 : (.methodLink RL 146 yX5_covering : Cond) ∈ wsA := inA (k := 893) (by decide +kernel) rfl
theorem q894 : (.instanceMethod yX5_covering : Cond) ∈ wsA := inA (k := 894) (by decide +kernel) rfl
theorem q895 : (.selects RX5 yX5_covering yX5_covering : Cond) ∈ wsA := inA (k := 895) (by decide +kernel) rfl
theorem q896 : (.code yX5_covering cX5_covering 2 (some .int) : Cond) ∈ wsA := inA (k := 896) (by decide +kernel) rfl
theorem q897 : (.methodLink RL 149 yX5_mayChange : Cond) ∈ wsA := inA (k := 897) (by decide +kernel) rfl
theorem q898 : (.instanceMethod yX5_mayChange : Cond) ∈ wsA := inA (k := 898) (by decide +kernel) rfl
theorem q899 : (.selects RX5 yX5_mayChange yX5_mayChange : Cond) ∈ wsA := inA (k := 899) (by decide +kernel) rfl
theorem q900 : (.code yX5_mayChange cX5_mayChange 4 (some .boolean) : Cond) ∈ wsA := inA (k := 900) (by decide +kernel) rfl
theorem q901 : (.methodLink RL 152 yX5_keep : Cond) ∈ wsA := inA (k := 901) (by decide +kernel) rfl
theorem q902 : (.instanceMethod yX5_keep : Cond) ∈ wsA := inA (k := 902) (by decide +kernel) rfl
theorem q903 : (.selects RX5 yX5_keep yX5_keep : Cond) ∈ wsA := inA (k := 903) (by decide +kernel) rfl
theorem q904 : (.code yX5_keep cX5_keep 4 (some .int) : Cond) ∈ wsA := inA (k := 904) (by decide +kernel) rfl
theorem q905 : (.methodLink RL 155 yX5_restore : Cond) ∈ wsA := inA (k := 905) (by decide +kernel) rfl
theorem q906 : (.instanceMethod yX5_restore : Cond) ∈ wsA := inA (k := 906) (by decide +kernel) rfl
theorem q907 : (.selects RX5 yX5_restore yX5_restore : Cond) ∈ wsA := inA (k := 907) (by decide +kernel) rfl
theorem q908 : (.code yX5_restore cX5_restore 8 (some .int) : Cond) ∈ wsA := inA (k := 908) (by decide +kernel) rfl
theorem q909 : (.arrayClass .long : Cond) ∈ wsA := inA (k := 909) (by decide +kernel) rfl
