theorem q1 : (.selects RX3 yX3_isCollection yX3_isCollection : Cond) ∈ wsA := inA (k := 1) (by decide +kernel) rfl
theorem q2 : (.selects RX3 yX3_kindAt yX3_kindAt : Cond) ∈ wsA := inA (k := 2) (by decide +kernel) rfl
theorem q3 : (.selects RX3 yX3_find yX3_find : Cond) ∈ wsA := inA (k := 3) (by decide +kernel) rfl
theorem q4 : (.selects RX3 yX3_indexOf yX3_indexOf : Cond) ∈ wsA := inA (k := 4) (by decide +kernel) rfl
theorem q5 : (.selects RX4 yX4_allowsWithParent yX4_allowsWithParent : Cond) ∈ wsA := inA (k := 5) (by decide +kernel) rfl
theorem q6 : (.selects RX1 yX1_allows yX1_allows : Cond) ∈ wsA := inA (k := 6) (by decide +kernel) rfl
theorem q7 : (.selects RX1 yX1_tokensOver yX1_tokensOver : Cond) ∈ wsA := inA (k := 7) (by decide +kernel) rfl
theorem q8 : (.selects RX1 yX1_find yX1_find : Cond) ∈ wsA := inA (k := 8) (by decide +kernel) rfl
theorem q9 : (.selects RX0 yX0_covers yX0_covers : Cond) ∈ wsA := inA (k := 9) (by decide +kernel) rfl
theorem q10 : (.selects RX3 yX3_append yX3_append : Cond) ∈ wsA := inA (k := 10) (by decide +kernel) rfl
theorem q11 : (.selects RX2 yX2_begin yX2_begin : Cond) ∈ wsA := inA (k := 11) (by decide +kernel) rfl
theorem q12 : (.selects RX4 yX4_outcomeOfWriting yX4_outcomeOfWriting : Cond) ∈ wsA := inA (k := 12) (by decide +kernel) rfl
theorem q13 : (.selects RX3 yX3_findFile yX3_findFile : Cond) ∈ wsA := inA (k := 13) (by decide +kernel) rfl
theorem q14 : (.selects RX4 yX4_write yX4_write : Cond) ∈ wsA := inA (k := 14) (by decide +kernel) rfl
theorem q15 : (.selects RX4 yX4_noteFailures yX4_noteFailures : Cond) ∈ wsA := inA (k := 15) (by decide +kernel) rfl
theorem q16 : (.selects RX3 yX3_pathAt yX3_pathAt : Cond) ∈ wsA := inA (k := 16) (by decide +kernel) rfl
theorem q17 : (.selects RX4 yX4_insertFailure yX4_insertFailure : Cond) ∈ wsA := inA (k := 17) (by decide +kernel) rfl
theorem q18 : (.selects RX3 yX3_markTree yX3_markTree : Cond) ∈ wsA := inA (k := 18) (by decide +kernel) rfl
theorem q19 : (.selects RX4 yX4_spareFailures yX4_spareFailures : Cond) ∈ wsA := inA (k := 19) (by decide +kernel) rfl
theorem q20 : (.selects RX3 yX3_spareUpFrom yX3_spareUpFrom : Cond) ∈ wsA := inA (k := 20) (by decide +kernel) rfl
theorem q21 : (.selects RX4 yX4_removeMarked yX4_removeMarked : Cond) ∈ wsA := inA (k := 21) (by decide +kernel) rfl
theorem q22 : (.selects RX3 yX3_isGoingAt yX3_isGoingAt : Cond) ∈ wsA := inA (k := 22) (by decide +kernel) rfl
theorem q23 : (.selects RX1 yX1_dropAt yX1_dropAt : Cond) ∈ wsA := inA (k := 23) (by decide +kernel) rfl
theorem q24 : (.selects RX3 yX3_removeMarked yX3_removeMarked : Cond) ∈ wsA := inA (k := 24) (by decide +kernel) rfl
theorem q25 : (.selects RX3 yX3_memberCount yX3_memberCount : Cond) ∈ wsA := inA (k := 25) (by decide +kernel) rfl
theorem q26 : (.selects RX4 yX4_outcomeOfTarget yX4_outcomeOfTarget : Cond) ∈ wsA := inA (k := 26) (by decide +kernel) rfl
theorem q27 : (.selects RX3 yX3_fits yX3_fits : Cond) ∈ wsA := inA (k := 27) (by decide +kernel) rfl
theorem q28 : (.selects RX4 yX4_allowsTree yX4_allowsTree : Cond) ∈ wsA := inA (k := 28) (by decide +kernel) rfl
theorem q29 : (.selects RX3 yX3_treeSize yX3_treeSize : Cond) ∈ wsA := inA (k := 29) (by decide +kernel) rfl
theorem q30 : (.selects RX4 yX4_removeTree yX4_removeTree : Cond) ∈ wsA := inA (k := 30) (by decide +kernel) rfl
theorem q31 : (.selects RX3 yX3_appendCopyOfTree yX3_appendCopyOfTree : Cond) ∈ wsA := inA (k := 31) (by decide +kernel) rfl
theorem q32 : (.selects RX4 yX4_dropLocksOfTree yX4_dropLocksOfTree : Cond) ∈ wsA := inA (k := 32) (by decide +kernel) rfl
theorem q33 : (.selects RX3 yX3_renameTree yX3_renameTree : Cond) ∈ wsA := inA (k := 33) (by decide +kernel) rfl
theorem q34 : (.selects RX3 yX3_placeMember yX3_placeMember : Cond) ∈ wsA := inA (k := 34) (by decide +kernel) rfl
theorem q35 : (.selects RX3 yX3_shift yX3_shift : Cond) ∈ wsA := inA (k := 35) (by decide +kernel) rfl
theorem q36 : (.selects RX3 yX3_memberIndex yX3_memberIndex : Cond) ∈ wsA := inA (k := 36) (by decide +kernel) rfl
theorem q37 : (.selects RX1 yX1_bar yX1_bar : Cond) ∈ wsA := inA (k := 37) (by decide +kernel) rfl
theorem q38 : (.selects RX1 yX1_add yX1_add : Cond) ∈ wsA := inA (k := 38) (by decide +kernel) rfl
theorem q39 : (.selects RX1 yX1_advance yX1_advance : Cond) ∈ wsA := inA (k := 39) (by decide +kernel) rfl
theorem q40 : (.selects RX2 yX2_addVersion yX2_addVersion : Cond) ∈ wsA := inA (k := 40) (by decide +kernel) rfl
theorem q41 : (.selects RX2 yX2_versionAt yX2_versionAt : Cond) ∈ wsA := inA (k := 41) (by decide +kernel) rfl
theorem q42 : (.initialized RL : Cond) ∈ wsA := inA (k := 42) (by decide +kernel) rfl
theorem q43 : (.initialized RX4 : Cond) ∈ wsA := inA (k := 43) (by decide +kernel) rfl
theorem q44 : (.initialized RX3 : Cond) ∈ wsA := inA (k := 44) (by decide +kernel) rfl
theorem q45 : (.initialized RX2 : Cond) ∈ wsA := inA (k := 45) (by decide +kernel) rfl
theorem q46 : (.initialized RX1 : Cond) ∈ wsA := inA (k := 46) (by decide +kernel) rfl
theorem q47 : (.initialized RX0 : Cond) ∈ wsA := inA (k := 47) (by decide +kernel) rfl
theorem q51 : (.initialized "java/lang/IllegalArgumentException" : Cond) ∈ wsA := inA (k := 51) (by decide +kernel) rfl
theorem q52 : (.initialized "java/lang/IndexOutOfBoundsException" : Cond) ∈ wsA := inA (k := 52) (by decide +kernel) rfl
theorem q53 : (.initialized "java/lang/IllegalStateException" : Cond) ∈ wsA := inA (k := 53) (by decide +kernel) rfl
theorem q54 : (.classLink RL 8 RX4 : Cond) ∈ wsA := inA (k := 54) (by decide +kernel) rfl
theorem q55 : (.instantiable RX4 4 : Cond) ∈ wsA := inA (k := 55) (by decide +kernel) rfl
theorem q56 : (.methodLink RL 91 yX4_init : Cond) ∈ wsA := inA (k := 56) (by decide +kernel) rfl
theorem q57 : (.instanceMethod yX4_init : Cond) ∈ wsA := inA (k := 57) (by decide +kernel) rfl
theorem q58 : (.code yX4_init cX4_init 1 (none : Option Jvm.ClassFile.FieldType) : Cond) ∈ wsA := inA (k := 58) (by decide +kernel) rfl
theorem q59 : (.methodLink RX4 1 objectInit : Cond) ∈ wsA := inA (k := 59) (by decide +kernel) rfl
theorem q60 : (.instanceMethod objectInit : Cond) ∈ wsA := inA (k := 60) (by decide +kernel) rfl
theorem q61 : (.code objectInit object_method_1_code 1 (none : Option Jvm.ClassFile.FieldType) : Cond) ∈ wsA := inA (k := 61) (by decide +kernel) rfl
theorem q62 : (.classLink RX4 7 RX3 : Cond) ∈ wsA := inA (k := 62) (by decide +kernel) rfl
theorem q63 : (.instantiable RX3 2 : Cond) ∈ wsA := inA (k := 63) (by decide +kernel) rfl
theorem q65 : (.instanceMethod yX3_init : Cond) ∈ wsA := inA (k := 65) (by decide +kernel) rfl
theorem q66 : (.code yX3_init cX3_init 2 (none : Option Jvm.ClassFile.FieldType) : Cond) ∈ wsA := inA (k := 66) (by decide +kernel) rfl
theorem q67 : (.methodLink RX3 3 objectInit : Cond) ∈ wsA := inA (k := 67) (by decide +kernel) rfl
theorem q68 : (.classLink RX3 9 RX2 : Cond) ∈ wsA := inA (k := 68) (by decide +kernel) rfl
theorem q70 : (.instantiable RX2 6 : Cond) ∈ wsA := inA (k := 70) (by decide +kernel) rfl
theorem q72 : (.instanceMethod yX2_init : Cond) ∈ wsA := inA (k := 72) (by decide +kernel) rfl
theorem q73 : (.code yX2_init cX2_init 1 (none : Option Jvm.ClassFile.FieldType) : Cond) ∈ wsA := inA (k := 73) (by decide +kernel) rfl
theorem q74 : (.methodLink RX2 3 objectInit : Cond) ∈ wsA := inA (k := 74) (by decide +kernel) rfl
theorem q75 : (.fieldLink RX2 15 "ShelfServer$Resource" "path" "I" : Cond) ∈ wsA := inA (k := 75) (by decide +kernel) rfl
theorem q77 : (.fieldLink RX2 19 "ShelfServer$Resource" "kind" "I" : Cond) ∈ wsA := inA (k := 77) (by decide +kernel) rfl
theorem q79 : (.fieldLink RX2 22 "ShelfServer$Resource" "content" "I" : Cond) ∈ wsA := inA (k := 79) (by decide +kernel) rfl
theorem q82 : (.fieldLink RX2 25 "ShelfServer$Resource" "isGoing" "Z" : Cond) ∈ wsA := inA (k := 82) (by decide +kernel) rfl
theorem q84 : (.fieldLink RX2 9 "ShelfServer$Resource" "versions" "[I" : Cond) ∈ wsA := inA (k := 84) (by decide +kernel) rfl
theorem q85 : (.fieldLink RX2 29 "ShelfServer$Resource" "versionCount" "I" : Cond) ∈ wsA := inA (k := 85) (by decide +kernel) rfl
theorem q100 : (.arrayClass .int : Cond) ∈ wsA := inA (k := 100) (by decide +kernel) rfl
theorem q101 : (.fieldLink RX3 11 "ShelfServer$Shelf" "row" "[LShelfServer$Resource;" : Cond) ∈ wsA := inA (k := 101) (by decide +kernel) rfl
theorem q102 : (.fieldLink RX3 18 "ShelfServer$Shelf" "count" "I" : Cond) ∈ wsA := inA (k := 102) (by decide +kernel) rfl
theorem q109 : (.classLink RX4 16 RX1 : Cond) ∈ wsA := inA (k := 109) (by decide +kernel) rfl
theorem q110 : (.instantiable RX1 3 : Cond) ∈ wsA := inA (k := 110) (by decide +kernel) rfl
theorem q112 : (.instanceMethod yX1_init : Cond) ∈ wsA := inA (k := 112) (by decide +kernel) rfl
theorem q113 : (.code yX1_init cX1_init 2 (none : Option Jvm.ClassFile.FieldType) : Cond) ∈ wsA := inA (k := 113) (by decide +kernel) rfl
theorem q114 : (.methodLink RX1 3 objectInit : Cond) ∈ wsA := inA (k := 114) (by decide +kernel) rfl
theorem q115 : (.classLink RX1 9 RX0 : Cond) ∈ wsA := inA (k := 115) (by decide +kernel) rfl
theorem q117 : (.instantiable RX0 5 : Cond) ∈ wsA := inA (k := 117) (by decide +kernel) rfl
theorem q119 : (.instanceMethod yX0_init : Cond) ∈ wsA := inA (k := 119) (by decide +kernel) rfl
theorem q120 : (.code yX0_init cX0_init 1 (none : Option Jvm.ClassFile.FieldType) : Cond) ∈ wsA := inA (k := 120) (by decide +kernel) rfl
theorem q121 : (.methodLink RX0 1 objectInit : Cond) ∈ wsA := inA (k := 121) (by decide +kernel) rfl
theorem q124 : (.fieldLink RX0 7 "ShelfServer$Lock" "path" "I" : Cond) ∈ wsA := inA (k := 124) (by decide +kernel) rfl
theorem q127 : (.fieldLink RX0 13 "ShelfServer$Lock" "isDeep" "Z" : Cond) ∈ wsA := inA (k := 127) (by decide +kernel) rfl
theorem q142 : (.fieldLink RX1 11 "ShelfServer$Locks" "row" "[LShelfServer$Lock;" : Cond) ∈ wsA := inA (k := 142) (by decide +kernel) rfl
theorem q143 : (.fieldLink RX1 18 "ShelfServer$Locks" "count" "I" : Cond) ∈ wsA := inA (k := 143) (by decide +kernel) rfl
theorem q145 : (.fieldLink RX1 22 "ShelfServer$Locks" "now" "I" : Cond) ∈ wsA := inA (k := 145) (by decide +kernel) rfl
theorem q154 : (.fieldLink RX4 10 "ShelfServer" "shelf" "LShelfServer$Shelf;" : Cond) ∈ wsA := inA (k := 154) (by decide +kernel) rfl
theorem q155 : (.fieldLink RX4 19 "ShelfServer" "locks" "LShelfServer$Locks;" : Cond) ∈ wsA := inA (k := 155) (by decide +kernel) rfl
theorem q156 : (.fieldLink RX4 23 "ShelfServer" "failed" "[I" : Cond) ∈ wsA := inA (k := 156) (by decide +kernel) rfl
theorem q157 : (.fieldLink RX4 27 "ShelfServer" "failedCount" "I" : Cond) ∈ wsA := inA (k := 157) (by decide +kernel) rfl
theorem q167 : (.methodLink RL 7 yX4_makeCollection : Cond) ∈ wsA := inA (k := 167) (by decide +kernel) rfl
theorem q168 : (.instanceMethod yX4_makeCollection : Cond) ∈ wsA := inA (k := 168) (by decide +kernel) rfl
theorem q169 : (.selects RX4 yX4_makeCollection yX4_makeCollection : Cond) ∈ wsA := inA (k := 169) (by decide +kernel) rfl
theorem q170 : (.code yX4_makeCollection cX4_makeCollection 4 (some .int) : Cond) ∈ wsA := inA (k := 170) (by decide +kernel) rfl
theorem q171 : (.methodLink RX4 31 yX4_requireClient : Cond) ∈ wsA := inA (k := 171) (by decide +kernel) rfl
theorem q172 : (.static yX4_requireClient : Cond) ∈ wsA := inA (k := 172) (by decide +kernel) rfl
theorem q173 : (.code yX4_requireClient cX4_requireClient 1 (none : Option Jvm.ClassFile.FieldType) : Cond) ∈ wsA := inA (k := 173) (by decide +kernel) rfl
theorem q174 : (.methodLink RX4 64 yX4_requireRange : Cond) ∈ wsA := inA (k := 174) (by decide +kernel) rfl
theorem q175 : (.static yX4_requireRange : Cond) ∈ wsA := inA (k := 175) (by decide +kernel) rfl
theorem q176 : (.code yX4_requireRange cX4_requireRange 3 (none : Option Jvm.ClassFile.FieldType) : Cond) ∈ wsA := inA (k := 176) (by decide +kernel) rfl
theorem q177 : (.classLink RX4 211 "java/lang/IllegalArgumentException" : Cond) ∈ wsA := inA (k := 177) (by decide +kernel) rfl
theorem q178 : (.instantiable "java/lang/IllegalArgumentException" 6 : Cond) ∈ wsA := inA (k := 178) (by decide +kernel) rfl
theorem q202 : (.methodLink "java/lang/Throwable" 1 objectInit : Cond) ∈ wsA := inA (k := 202) (by decide +kernel) rfl
theorem q244 : (.arrayClass .byte : Cond) ∈ wsA := inA (k := 244) (by decide +kernel) rfl
theorem q245 : (.methodLink RX4 35 yX4_requirePathBelowTop : Cond) ∈ wsA := inA (k := 245) (by decide +kernel) rfl
theorem q246 : (.static yX4_requirePathBelowTop : Cond) ∈ wsA := inA (k := 246) (by decide +kernel) rfl
theorem q247 : (.code yX4_requirePathBelowTop cX4_requirePathBelowTop 1 (none : Option Jvm.ClassFile.FieldType) : Cond) ∈ wsA := inA (k := 247) (by decide +kernel) rfl
theorem q248 : (.methodLink RX4 123 yX4_requirePath : Cond) ∈ wsA := inA (k := 248) (by decide +kernel) rfl
theorem q249 : (.static yX4_requirePath : Cond) ∈ wsA := inA (k := 249) (by decide +kernel) rfl
theorem q250 : (.code yX4_requirePath cX4_requirePath 1 (none : Option Jvm.ClassFile.FieldType) : Cond) ∈ wsA := inA (k := 250) (by decide +kernel) rfl
theorem q251 : (.methodLink RX4 218 yX4_isPath : Cond) ∈ wsA := inA (k := 251) (by decide +kernel) rfl
theorem q252 : (.static yX4_isPath : Cond) ∈ wsA := inA (k := 252) (by decide +kernel) rfl
theorem q253 : (.code yX4_isPath cX4_isPath 3 (some .boolean) : Cond) ∈ wsA := inA (k := 253) (by decide +kernel) rfl
theorem q256 : (.methodLink RX4 38 yX4_requireNotNegative : Cond) ∈ wsA := inA (k := 256) (by decide +kernel) rfl
theorem q257 : (.static yX4_requireNotNegative : Cond) ∈ wsA := inA (k := 257) (by decide +kernel) rfl
theorem q258 : (.code yX4_requireNotNegative cX4_requireNotNegative 1 (none : Option Jvm.ClassFile.FieldType) : Cond) ∈ wsA := inA (k := 258) (by decide +kernel) rfl
theorem q260 : (.methodLink RX4 41 yX4_parentOf : Cond) ∈ wsA := inA (k := 260) (by decide +kernel) rfl
theorem q261 : (.static yX4_parentOf : Cond) ∈ wsA := inA (k := 261) (by decide +kernel) rfl
theorem q262 : (.code yX4_parentOf cX4_parentOf 1 (some .int) : Cond) ∈ wsA := inA (k := 262) (by decide +kernel) rfl
theorem q265 : (.instanceMethod yX3_isCollection : Cond) ∈ wsA := inA (k := 265) (by decide +kernel) rfl
theorem q266 : (.code yX3_isCollection cX3_isCollection 2 (some .boolean) : Cond) ∈ wsA := inA (k := 266) (by decide +kernel) rfl
theorem q267 : (.methodLink RX3 40 yX3_kindAt : Cond) ∈ wsA := inA (k := 267) (by decide +kernel) rfl
theorem q269 : (.instanceMethod yX3_kindAt : Cond) ∈ wsA := inA (k := 269) (by decide +kernel) rfl
theorem q270 : (.code yX3_kindAt cX3_kindAt 3 (some .int) : Cond) ∈ wsA := inA (k := 270) (by decide +kernel) rfl
theorem q271 : (.methodLink RX3 33 yX3_find : Cond) ∈ wsA := inA (k := 271) (by decide +kernel) rfl
theorem q273 : (.instanceMethod yX3_find : Cond) ∈ wsA := inA (k := 273) (by decide +kernel) rfl
theorem q274 : (.code yX3_find cX3_find 3 (some (.object "ShelfServer$Resource")) : Cond) ∈ wsA := inA (k := 274) (by decide +kernel) rfl
theorem q275 : (.methodLink RX3 25 yX3_indexOf : Cond) ∈ wsA := inA (k := 275) (by decide +kernel) rfl
theorem q277 : (.instanceMethod yX3_indexOf : Cond) ∈ wsA := inA (k := 277) (by decide +kernel) rfl
theorem q278 : (.code yX3_indexOf cX3_indexOf 3 (some .int) : Cond) ∈ wsA := inA (k := 278) (by decide +kernel) rfl
theorem q280 : (.methodLink RX4 53 yX4_allowsWithParent : Cond) ∈ wsA := inA (k := 280) (by decide +kernel) rfl
theorem q282 : (.instanceMethod yX4_allowsWithParent : Cond) ∈ wsA := inA (k := 282) (by decide +kernel) rfl
theorem q283 : (.code yX4_allowsWithParent cX4_allowsWithParent 4 (some .boolean) : Cond) ∈ wsA := inA (k := 283) (by decide +kernel) rfl
theorem q286 : (.instanceMethod yX1_allows : Cond) ∈ wsA := inA (k := 286) (by decide +kernel) rfl
theorem q287 : (.code yX1_allows cX1_allows 8 (some .boolean) : Cond) ∈ wsA := inA (k := 287) (by decide +kernel) rfl
theorem q288 : (.methodLink RX1 36 yX1_tokensOver : Cond) ∈ wsA := inA (k := 288) (by decide +kernel) rfl
theorem q290 : (.instanceMethod yX1_tokensOver : Cond) ∈ wsA := inA (k := 290) (by decide +kernel) rfl
theorem q291 : (.code yX1_tokensOver cX1_tokensOver 5 (some .int) : Cond) ∈ wsA := inA (k := 291) (by decide +kernel) rfl
theorem q292 : (.methodLink RX1 28 yX1_find : Cond) ∈ wsA := inA (k := 292) (by decide +kernel) rfl
theorem q294 : (.instanceMethod yX1_find : Cond) ∈ wsA := inA (k := 294) (by decide +kernel) rfl
theorem q295 : (.code yX1_find cX1_find 2 (some (.object "ShelfServer$Lock")) : Cond) ∈ wsA := inA (k := 295) (by decide +kernel) rfl
theorem q298 : (.instanceMethod yX0_covers : Cond) ∈ wsA := inA (k := 298) (by decide +kernel) rfl
theorem q299 : (.code yX0_covers cX0_covers 2 (some .boolean) : Cond) ∈ wsA := inA (k := 299) (by decide +kernel) rfl
theorem q301 : (.static yX4_isAbove : Cond) ∈ wsA := inA (k := 301) (by decide +kernel) rfl
theorem q302 : (.code yX4_isAbove cX4_isAbove 4 (some .boolean) : Cond) ∈ wsA := inA (k := 302) (by decide +kernel) rfl
theorem q305 : (.instanceMethod yX3_append : Cond) ∈ wsA := inA (k := 305) (by decide +kernel) rfl
theorem q306 : (.code yX3_append cX3_append 4 (none : Option Jvm.ClassFile.FieldType) : Cond) ∈ wsA := inA (k := 306) (by decide +kernel) rfl
theorem q309 : (.instanceMethod yX2_begin : Cond) ∈ wsA := inA (k := 309) (by decide +kernel) rfl
theorem q310 : (.code yX2_begin cX2_begin 4 (none : Option Jvm.ClassFile.FieldType) : Cond) ∈ wsA := inA (k := 310) (by decide +kernel) rfl
theorem q311 : (.methodLink RL 13 yX4_put : Cond) ∈ wsA := inA (k := 311) (by decide +kernel) rfl
theorem q312 : (.instanceMethod yX4_put : Cond) ∈ wsA := inA (k := 312) (by decide +kernel) rfl
theorem q313 : (.selects RX4 yX4_put yX4_put : Cond) ∈ wsA := inA (k := 313) (by decide +kernel) rfl
theorem q314 : (.code yX4_put cX4_put 7 (some .int) : Cond) ∈ wsA := inA (k := 314) (by decide +kernel) rfl
theorem q315 : (.methodLink RX4 67 yX4_outcomeOfWriting : Cond) ∈ wsA := inA (k := 315) (by decide +kernel) rfl
theorem q317 : (.instanceMethod yX4_outcomeOfWriting : Cond) ∈ wsA := inA (k := 317) (by decide +kernel) rfl
theorem q318 : (.code yX4_outcomeOfWriting cX4_outcomeOfWriting 6 (some .int) : Cond) ∈ wsA := inA (k := 318) (by decide +kernel) rfl
theorem q321 : (.instanceMethod yX3_findFile : Cond) ∈ wsA := inA (k := 321) (by decide +kernel) rfl
theorem q322 : (.code yX3_findFile cX3_findFile 3 (some (.object "ShelfServer$Resource")) : Cond) ∈ wsA := inA (k := 322) (by decide +kernel) rfl
theorem q323 : (.methodLink RX4 71 yX4_write : Cond) ∈ wsA := inA (k := 323) (by decide +kernel) rfl
theorem q325 : (.instanceMethod yX4_write : Cond) ∈ wsA := inA (k := 325) (by decide +kernel) rfl
theorem q326 : (.code yX4_write cX4_write 4 (none : Option Jvm.ClassFile.FieldType) : Cond) ∈ wsA := inA (k := 326) (by decide +kernel) rfl
theorem q327 : (.methodLink RL 17 yX4_delete : Cond) ∈ wsA := inA (k := 327) (by decide +kernel) rfl
theorem q328 : (.instanceMethod yX4_delete : Cond) ∈ wsA := inA (k := 328) (by decide +kernel) rfl
theorem q329 : (.selects RX4 yX4_delete yX4_delete : Cond) ∈ wsA := inA (k := 329) (by decide +kernel) rfl
theorem q330 : (.code yX4_delete cX4_delete 4 (some .int) : Cond) ∈ wsA := inA (k := 330) (by decide +kernel) rfl
theorem q331 : (.methodLink RX4 75 yX4_noteFailures : Cond) ∈ wsA := inA (k := 331) (by decide +kernel) rfl
theorem q333 : (.instanceMethod yX4_noteFailures : Cond) ∈ wsA := inA (k := 333) (by decide +kernel) rfl
theorem q334 : (.code yX4_noteFailures cX4_noteFailures 6 (none : Option Jvm.ClassFile.FieldType) : Cond) ∈ wsA := inA (k := 334) (by decide +kernel) rfl
theorem q337 : (.instanceMethod yX3_pathAt : Cond) ∈ wsA := inA (k := 337) (by decide +kernel) rfl
theorem q338 : (.code yX3_pathAt cX3_pathAt 2 (some .int) : Cond) ∈ wsA := inA (k := 338) (by decide +kernel) rfl
theorem q339 : (.methodLink RX4 231 yX4_isAbove : Cond) ∈ wsA := inA (k := 339) (by decide +kernel) rfl
theorem q340 : (.methodLink RX4 237 yX4_insertFailure : Cond) ∈ wsA := inA (k := 340) (by decide +kernel) rfl
theorem q342 : (.instanceMethod yX4_insertFailure : Cond) ∈ wsA := inA (k := 342) (by decide +kernel) rfl
theorem q343 : (.code yX4_insertFailure cX4_insertFailure 3 (none : Option Jvm.ClassFile.FieldType) : Cond) ∈ wsA := inA (k := 343) (by decide +kernel) rfl
theorem q346 : (.instanceMethod yX3_markTree : Cond) ∈ wsA := inA (k := 346) (by decide +kernel) rfl
theorem q347 : (.code yX3_markTree cX3_markTree 3 (none : Option Jvm.ClassFile.FieldType) : Cond) ∈ wsA := inA (k := 347) (by decide +kernel) rfl
theorem q349 : (.static yX4_isIn : Cond) ∈ wsA := inA (k := 349) (by decide +kernel) rfl
theorem q350 : (.code yX4_isIn cX4_isIn 2 (some .boolean) : Cond) ∈ wsA := inA (k := 350) (by decide +kernel) rfl
theorem q351 : (.methodLink RX4 81 yX4_spareFailures : Cond) ∈ wsA := inA (k := 351) (by decide +kernel) rfl
theorem q353 : (.instanceMethod yX4_spareFailures : Cond) ∈ wsA := inA (k := 353) (by decide +kernel) rfl
theorem q354 : (.code yX4_spareFailures cX4_spareFailures 2 (none : Option Jvm.ClassFile.FieldType) : Cond) ∈ wsA := inA (k := 354) (by decide +kernel) rfl
theorem q357 : (.instanceMethod yX3_spareUpFrom : Cond) ∈ wsA := inA (k := 357) (by decide +kernel) rfl
theorem q358 : (.code yX3_spareUpFrom cX3_spareUpFrom 3 (none : Option Jvm.ClassFile.FieldType) : Cond) ∈ wsA := inA (k := 358) (by decide +kernel) rfl
theorem q359 : (.methodLink RX4 84 yX4_removeMarked : Cond) ∈ wsA := inA (k := 359) (by decide +kernel) rfl
theorem q361 : (.instanceMethod yX4_removeMarked : Cond) ∈ wsA := inA (k := 361) (by decide +kernel) rfl
theorem q362 : (.code yX4_removeMarked cX4_removeMarked 2 (none : Option Jvm.ClassFile.FieldType) : Cond) ∈ wsA := inA (k := 362) (by decide +kernel) rfl
theorem q365 : (.instanceMethod yX3_isGoingAt : Cond) ∈ wsA := inA (k := 365) (by decide +kernel) rfl
theorem q366 : (.code yX3_isGoingAt cX3_isGoingAt 2 (some .boolean) : Cond) ∈ wsA := inA (k := 366) (by decide +kernel) rfl
theorem q369 : (.instanceMethod yX1_dropAt : Cond) ∈ wsA := inA (k := 369) (by decide +kernel) rfl
theorem q370 : (.code yX1_dropAt cX1_dropAt 4 (none : Option Jvm.ClassFile.FieldType) : Cond) ∈ wsA := inA (k := 370) (by decide +kernel) rfl
theorem q373 : (.instanceMethod yX3_removeMarked : Cond) ∈ wsA := inA (k := 373) (by decide +kernel) rfl
theorem q374 : (.code yX3_removeMarked cX3_removeMarked 4 (none : Option Jvm.ClassFile.FieldType) : Cond) ∈ wsA := inA (k := 374) (by decide +kernel) rfl
theorem q375 : (.methodLink RL 34 yX4_content : Cond) ∈ wsA := inA (k := 375) (by decide +kernel) rfl
theorem q376 : (.instanceMethod yX4_content : Cond) ∈ wsA := inA (k := 376) (by decide +kernel) rfl
theorem q377 : (.selects RX4 yX4_content yX4_content : Cond) ∈ wsA := inA (k := 377) (by decide +kernel) rfl
theorem q378 : (.code yX4_content cX4_content 3 (some .int) : Cond) ∈ wsA := inA (k := 378) (by decide +kernel) rfl
theorem q379 : (.methodLink RL 77 yX4_resources : Cond) ∈ wsA := inA (k := 379) (by decide +kernel) rfl
theorem q380 : (.instanceMethod yX4_resources : Cond) ∈ wsA := inA (k := 380) (by decide +kernel) rfl
theorem q381 : (.selects RX4 yX4_resources yX4_resources : Cond) ∈ wsA := inA (k := 381) (by decide +kernel) rfl
theorem q382 : (.code yX4_resources cX4_resources 1 (some .int) : Cond) ∈ wsA := inA (k := 382) (by decide +kernel) rfl
theorem q383 : (.methodLink RL 92 yL_refuses : Cond) ∈ wsA := inA (k := 383) (by decide +kernel) rfl
theorem q384 : (.static yL_refuses : Cond) ∈ wsA := inA (k := 384) (by decide +kernel) rfl
set_option maxRecDepth 100000 in
theorem q385 : (.code yL_refuses cL_refuses 17 (some .boolean) : Cond) ∈ wsA := inA (k := 385) (rfl) rfl
theorem q386 : (.methodLink RL 37 yX4_members : Cond) ∈ wsA := inA (k := 386) (by decide +kernel) rfl
theorem q387 : (.instanceMethod yX4_members : Cond) ∈ wsA := inA (k := 387) (by decide +kernel) rfl
theorem q388 : (.selects RX4 yX4_members yX4_members : Cond) ∈ wsA := inA (k := 388) (by decide +kernel) rfl
theorem q389 : (.code yX4_members cX4_members 2 (some .int) : Cond) ∈ wsA := inA (k := 389) (by decide +kernel) rfl
theorem q392 : (.instanceMethod yX3_memberCount : Cond) ∈ wsA := inA (k := 392) (by decide +kernel) rfl
theorem q393 : (.code yX3_memberCount cX3_memberCount 4 (some .int) : Cond) ∈ wsA := inA (k := 393) (by decide +kernel) rfl
theorem q395 : (.methodLink RL 81 yX4_failures : Cond) ∈ wsA := inA (k := 395) (by decide +kernel) rfl
theorem q396 : (.instanceMethod yX4_failures : Cond) ∈ wsA := inA (k := 396) (by decide +kernel) rfl
theorem q397 : (.selects RX4 yX4_failures yX4_failures : Cond) ∈ wsA := inA (k := 397) (by decide +kernel) rfl
theorem q398 : (.code yX4_failures cX4_failures 1 (some .int) : Cond) ∈ wsA := inA (k := 398) (by decide +kernel) rfl
theorem q399 : (.methodLink RL 58 yX4_covering : Cond) ∈ wsA := inA (k := 399) (by decide +kernel) rfl
theorem q400 : (.instanceMethod yX4_covering : Cond) ∈ wsA := inA (k := 400) (by decide +kernel) rfl
theorem q401 : (.selects RX4 yX4_covering yX4_covering : Cond) ∈ wsA := inA (k := 401) (by decide +kernel) rfl
theorem q402 : (.code yX4_covering cX4_covering 2 (some .int) : Cond) ∈ wsA := inA (k := 402) (by decide +kernel) rfl
theorem q404 : (.constant RL 84 (2147483647 : Int32) : Cond) ∈ wsA := inA (k := 404) (by decide +kernel) rfl
theorem q405 : (.methodLink RL 85 yL_act : Cond) ∈ wsA := inA (k := 405) (by decide +kernel) rfl
theorem q406 : (.static yL_act : Cond) ∈ wsA := inA (k := 406) (by decide +kernel) rfl
set_option maxRecDepth 100000 in
theorem q407 : (.codeWith yL_act cL_act 7 (some .int) [(0, 384, 385, 71), (0, 384, 391, 73), (0, 384, 397, 75)] : Cond) ∈ wsA := inA (k := 407) (rfl) rfl
theorem q408 : (.classLink RL 71 "java/lang/IndexOutOfBoundsException" : Cond) ∈ wsA := inA (k := 408) (by decide +kernel) rfl
theorem q409 : (.classLink RL 73 "java/lang/IllegalArgumentException" : Cond) ∈ wsA := inA (k := 409) (by decide +kernel) rfl
theorem q410 : (.classLink RL 75 "java/lang/IllegalStateException" : Cond) ∈ wsA := inA (k := 410) (by decide +kernel) rfl
theorem q411 : (.methodLink RL 20 yX4_failureAt : Cond) ∈ wsA := inA (k := 411) (by decide +kernel) rfl
theorem q412 : (.instanceMethod yX4_failureAt : Cond) ∈ wsA := inA (k := 412) (by decide +kernel) rfl
theorem q413 : (.selects RX4 yX4_failureAt yX4_failureAt : Cond) ∈ wsA := inA (k := 413) (by decide +kernel) rfl
theorem q414 : (.code yX4_failureAt cX4_failureAt 2 (some .int) : Cond) ∈ wsA := inA (k := 414) (by decide +kernel) rfl
theorem q415 : (.classLink RX4 87 "java/lang/IndexOutOfBoundsException" : Cond) ∈ wsA := inA (k := 415) (by decide +kernel) rfl
theorem q416 : (.instantiable "java/lang/IndexOutOfBoundsException" 6 : Cond) ∈ wsA := inA (k := 416) (by decide +kernel) rfl
theorem q431 : (.methodLink RL 24 yX4_copy : Cond) ∈ wsA := inA (k := 431) (by decide +kernel) rfl
theorem q432 : (.instanceMethod yX4_copy : Cond) ∈ wsA := inA (k := 432) (by decide +kernel) rfl
theorem q433 : (.selects RX4 yX4_copy yX4_copy : Cond) ∈ wsA := inA (k := 433) (by decide +kernel) rfl
theorem q434 : (.code yX4_copy cX4_copy 7 (some .int) : Cond) ∈ wsA := inA (k := 434) (by decide +kernel) rfl
theorem q435 : (.methodLink RX4 94 yX4_requireTransfer : Cond) ∈ wsA := inA (k := 435) (by decide +kernel) rfl
theorem q436 : (.static yX4_requireTransfer : Cond) ∈ wsA := inA (k := 436) (by decide +kernel) rfl
theorem q437 : (.code yX4_requireTransfer cX4_requireTransfer 4 (none : Option Jvm.ClassFile.FieldType) : Cond) ∈ wsA := inA (k := 437) (by decide +kernel) rfl
theorem q438 : (.methodLink RX4 225 yX4_isIn : Cond) ∈ wsA := inA (k := 438) (by decide +kernel) rfl
theorem q440 : (.methodLink RX4 98 yX4_outcomeOfTarget : Cond) ∈ wsA := inA (k := 440) (by decide +kernel) rfl
theorem q442 : (.instanceMethod yX4_outcomeOfTarget : Cond) ∈ wsA := inA (k := 442) (by decide +kernel) rfl
theorem q443 : (.code yX4_outcomeOfTarget cX4_outcomeOfTarget 6 (some .int) : Cond) ∈ wsA := inA (k := 443) (by decide +kernel) rfl
theorem q446 : (.instanceMethod yX3_fits : Cond) ∈ wsA := inA (k := 446) (by decide +kernel) rfl
theorem q447 : (.code yX3_fits cX3_fits 4 (some .boolean) : Cond) ∈ wsA := inA (k := 447) (by decide +kernel) rfl
theorem q449 : (.static yX4_moved : Cond) ∈ wsA := inA (k := 449) (by decide +kernel) rfl
theorem q450 : (.code yX4_moved cX4_moved 6 (some .int) : Cond) ∈ wsA := inA (k := 450) (by decide +kernel) rfl
theorem q451 : (.methodLink RX4 114 yX4_allowsTree : Cond) ∈ wsA := inA (k := 451) (by decide +kernel) rfl
theorem q453 : (.instanceMethod yX4_allowsTree : Cond) ∈ wsA := inA (k := 453) (by decide +kernel) rfl
theorem q454 : (.code yX4_allowsTree cX4_allowsTree 6 (some .boolean) : Cond) ∈ wsA := inA (k := 454) (by decide +kernel) rfl
theorem q457 : (.instanceMethod yX3_treeSize : Cond) ∈ wsA := inA (k := 457) (by decide +kernel) rfl
theorem q458 : (.code yX3_treeSize cX3_treeSize 4 (some .int) : Cond) ∈ wsA := inA (k := 458) (by decide +kernel) rfl
theorem q459 : (.methodLink RX4 105 yX4_removeTree : Cond) ∈ wsA := inA (k := 459) (by decide +kernel) rfl
theorem q461 : (.instanceMethod yX4_removeTree : Cond) ∈ wsA := inA (k := 461) (by decide +kernel) rfl
theorem q462 : (.code yX4_removeTree cX4_removeTree 2 (none : Option Jvm.ClassFile.FieldType) : Cond) ∈ wsA := inA (k := 462) (by decide +kernel) rfl
theorem q465 : (.instanceMethod yX3_appendCopyOfTree : Cond) ∈ wsA := inA (k := 465) (by decide +kernel) rfl
theorem q466 : (.code yX3_appendCopyOfTree cX3_appendCopyOfTree 6 (none : Option Jvm.ClassFile.FieldType) : Cond) ∈ wsA := inA (k := 466) (by decide +kernel) rfl
theorem q467 : (.methodLink RX3 58 yX3_append : Cond) ∈ wsA := inA (k := 467) (by decide +kernel) rfl
theorem q468 : (.methodLink RL 28 yX4_move : Cond) ∈ wsA := inA (k := 468) (by decide +kernel) rfl
theorem q469 : (.instanceMethod yX4_move : Cond) ∈ wsA := inA (k := 469) (by decide +kernel) rfl
theorem q470 : (.selects RX4 yX4_move yX4_move : Cond) ∈ wsA := inA (k := 470) (by decide +kernel) rfl
theorem q471 : (.code yX4_move cX4_move 7 (some .int) : Cond) ∈ wsA := inA (k := 471) (by decide +kernel) rfl
theorem q472 : (.methodLink RX4 117 yX4_dropLocksOfTree : Cond) ∈ wsA := inA (k := 472) (by decide +kernel) rfl
theorem q474 : (.instanceMethod yX4_dropLocksOfTree : Cond) ∈ wsA := inA (k := 474) (by decide +kernel) rfl
theorem q475 : (.code yX4_dropLocksOfTree cX4_dropLocksOfTree 4 (none : Option Jvm.ClassFile.FieldType) : Cond) ∈ wsA := inA (k := 475) (by decide +kernel) rfl
theorem q478 : (.instanceMethod yX3_renameTree : Cond) ∈ wsA := inA (k := 478) (by decide +kernel) rfl
theorem q479 : (.code yX3_renameTree cX3_renameTree 4 (none : Option Jvm.ClassFile.FieldType) : Cond) ∈ wsA := inA (k := 479) (by decide +kernel) rfl
theorem q480 : (.methodLink RX3 61 yX3_placeMember : Cond) ∈ wsA := inA (k := 480) (by decide +kernel) rfl
theorem q482 : (.instanceMethod yX3_placeMember : Cond) ∈ wsA := inA (k := 482) (by decide +kernel) rfl
theorem q483 : (.code yX3_placeMember cX3_placeMember 5 (none : Option Jvm.ClassFile.FieldType) : Cond) ∈ wsA := inA (k := 483) (by decide +kernel) rfl
theorem q484 : (.methodLink RX3 68 yX3_shift : Cond) ∈ wsA := inA (k := 484) (by decide +kernel) rfl
theorem q486 : (.instanceMethod yX3_shift : Cond) ∈ wsA := inA (k := 486) (by decide +kernel) rfl
theorem q487 : (.code yX3_shift cX3_shift 5 (none : Option Jvm.ClassFile.FieldType) : Cond) ∈ wsA := inA (k := 487) (by decide +kernel) rfl
theorem q488 : (.methodLink RX3 71 yX3_memberIndex : Cond) ∈ wsA := inA (k := 488) (by decide +kernel) rfl
theorem q490 : (.instanceMethod yX3_memberIndex : Cond) ∈ wsA := inA (k := 490) (by decide +kernel) rfl
theorem q491 : (.code yX3_memberIndex cX3_memberIndex 5 (some .int) : Cond) ∈ wsA := inA (k := 491) (by decide +kernel) rfl
theorem q492 : (.methodLink RL 31 yX4_kindOf : Cond) ∈ wsA := inA (k := 492) (by decide +kernel) rfl
theorem q493 : (.instanceMethod yX4_kindOf : Cond) ∈ wsA := inA (k := 493) (by decide +kernel) rfl
theorem q494 : (.selects RX4 yX4_kindOf yX4_kindOf : Cond) ∈ wsA := inA (k := 494) (by decide +kernel) rfl
theorem q495 : (.code yX4_kindOf cX4_kindOf 2 (some .int) : Cond) ∈ wsA := inA (k := 495) (by decide +kernel) rfl
theorem q497 : (.methodLink RL 40 yX4_memberAt : Cond) ∈ wsA := inA (k := 497) (by decide +kernel) rfl
theorem q498 : (.instanceMethod yX4_memberAt : Cond) ∈ wsA := inA (k := 498) (by decide +kernel) rfl
theorem q499 : (.selects RX4 yX4_memberAt yX4_memberAt : Cond) ∈ wsA := inA (k := 499) (by decide +kernel) rfl
theorem q500 : (.code yX4_memberAt cX4_memberAt 4 (some .int) : Cond) ∈ wsA := inA (k := 500) (by decide +kernel) rfl
theorem q503 : (.methodLink RL 44 yX4_order : Cond) ∈ wsA := inA (k := 503) (by decide +kernel) rfl
theorem q504 : (.instanceMethod yX4_order : Cond) ∈ wsA := inA (k := 504) (by decide +kernel) rfl
theorem q505 : (.selects RX4 yX4_order yX4_order : Cond) ∈ wsA := inA (k := 505) (by decide +kernel) rfl
theorem q506 : (.code yX4_order cX4_order 5 (some .int) : Cond) ∈ wsA := inA (k := 506) (by decide +kernel) rfl
theorem q508 : (.methodLink RL 48 yX4_lock : Cond) ∈ wsA := inA (k := 508) (by decide +kernel) rfl
theorem q509 : (.instanceMethod yX4_lock : Cond) ∈ wsA := inA (k := 509) (by decide +kernel) rfl
theorem q510 : (.selects RX4 yX4_lock yX4_lock : Cond) ∈ wsA := inA (k := 510) (by decide +kernel) rfl
theorem q511 : (.code yX4_lock cX4_lock 7 (some .int) : Cond) ∈ wsA := inA (k := 511) (by decide +kernel) rfl
theorem q512 : (.classLink RX4 153 "java/lang/IllegalStateException" : Cond) ∈ wsA := inA (k := 512) (by decide +kernel) rfl
theorem q513 : (.instantiable "java/lang/IllegalStateException" 6 : Cond) ∈ wsA := inA (k := 513) (by decide +kernel) rfl
theorem q530 : (.instanceMethod yX1_bar : Cond) ∈ wsA := inA (k := 530) (by decide +kernel) rfl
theorem q531 : (.code yX1_bar cX1_bar 6 (some .boolean) : Cond) ∈ wsA := inA (k := 531) (by decide +kernel) rfl
theorem q537 : (.instanceMethod yX1_add : Cond) ∈ wsA := inA (k := 537) (by decide +kernel) rfl
theorem q538 : (.code yX1_add cX1_add 7 (some .int) : Cond) ∈ wsA := inA (k := 538) (by decide +kernel) rfl
theorem q539 : (.methodLink RL 52 yX4_refresh : Cond) ∈ wsA := inA (k := 539) (by decide +kernel) rfl
theorem q540 : (.instanceMethod yX4_refresh : Cond) ∈ wsA := inA (k := 540) (by decide +kernel) rfl
theorem q541 : (.selects RX4 yX4_refresh yX4_refresh : Cond) ∈ wsA := inA (k := 541) (by decide +kernel) rfl
theorem q542 : (.code yX4_refresh cX4_refresh 6 (some .int) : Cond) ∈ wsA := inA (k := 542) (by decide +kernel) rfl
theorem q546 : (.methodLink RL 55 yX4_pass : Cond) ∈ wsA := inA (k := 546) (by decide +kernel) rfl
theorem q547 : (.instanceMethod yX4_pass : Cond) ∈ wsA := inA (k := 547) (by decide +kernel) rfl
theorem q548 : (.selects RX4 yX4_pass yX4_pass : Cond) ∈ wsA := inA (k := 548) (by decide +kernel) rfl
theorem q549 : (.code yX4_pass cX4_pass 2 (some .int) : Cond) ∈ wsA := inA (k := 549) (by decide +kernel) rfl
theorem q550 : (.constant RX4 188 (1000000 : Int32) : Cond) ∈ wsA := inA (k := 550) (by decide +kernel) rfl
theorem q554 : (.instanceMethod yX1_advance : Cond) ∈ wsA := inA (k := 554) (by decide +kernel) rfl
theorem q555 : (.code yX1_advance cX1_advance 6 (some .int) : Cond) ∈ wsA := inA (k := 555) (by decide +kernel) rfl
theorem q556 : (.methodLink RL 61 yX4_mayChange : Cond) ∈ wsA := inA (k := 556) (by decide +kernel) rfl
theorem q557 : (.instanceMethod yX4_mayChange : Cond) ∈ wsA := inA (k := 557) (by decide +kernel) rfl
theorem q558 : (.selects RX4 yX4_mayChange yX4_mayChange : Cond) ∈ wsA := inA (k := 558) (by decide +kernel) rfl
theorem q559 : (.code yX4_mayChange cX4_mayChange 4 (some .boolean) : Cond) ∈ wsA := inA (k := 559) (by decide +kernel) rfl
theorem q560 : (.methodLink RL 65 yX4_keep : Cond) ∈ wsA := inA (k := 560) (by decide +kernel) rfl
theorem q561 : (.instanceMethod yX4_keep : Cond) ∈ wsA := inA (k := 561) (by decide +kernel) rfl
theorem q562 : (.selects RX4 yX4_keep yX4_keep : Cond) ∈ wsA := inA (k := 562) (by decide +kernel) rfl
theorem q563 : (.code yX4_keep cX4_keep 3 (some .int) : Cond) ∈ wsA := inA (k := 563) (by decide +kernel) rfl
theorem q568 : (.instanceMethod yX2_addVersion : Cond) ∈ wsA := inA (k := 568) (by decide +kernel) rfl
theorem q569 : (.code yX2_addVersion cX2_addVersion 1 (some .int) : Cond) ∈ wsA := inA (k := 569) (by decide +kernel) rfl
theorem q570 : (.methodLink RL 68 yX4_restore : Cond) ∈ wsA := inA (k := 570) (by decide +kernel) rfl
theorem q571 : (.instanceMethod yX4_restore : Cond) ∈ wsA := inA (k := 571) (by decide +kernel) rfl
theorem q572 : (.selects RX4 yX4_restore yX4_restore : Cond) ∈ wsA := inA (k := 572) (by decide +kernel) rfl
theorem q573 : (.code yX4_restore cX4_restore 7 (some .int) : Cond) ∈ wsA := inA (k := 573) (by decide +kernel) rfl
theorem q576 : (.instanceMethod yX2_versionAt : Cond) ∈ wsA := inA (k := 576) (by decide +kernel) rfl
theorem q577 : (.code yX2_versionAt cX2_versionAt 2 (some .int) : Cond) ∈ wsA := inA (k := 577) (by decide +kernel) rfl
theorem q578 : (.methodLink RL 102 yL_trees : Cond) ∈ wsA := inA (k := 578) (by decide +kernel) rfl
theorem q579 : (.static yL_trees : Cond) ∈ wsA := inA (k := 579) (by decide +kernel) rfl
set_option maxRecDepth 100000 in
theorem q580 : (.code yL_trees cL_trees 1 (some .boolean) : Cond) ∈ wsA := inA (k := 580) (rfl) rfl
theorem q581 : (.methodLink RL 96 yL_order : Cond) ∈ wsA := inA (k := 581) (by decide +kernel) rfl
theorem q582 : (.static yL_order : Cond) ∈ wsA := inA (k := 582) (by decide +kernel) rfl
set_option maxRecDepth 100000 in
theorem q583 : (.code yL_order cL_order 6 (some .boolean) : Cond) ∈ wsA := inA (k := 583) (rfl) rfl
theorem q584 : (.methodLink RL 106 yL_locks : Cond) ∈ wsA := inA (k := 584) (by decide +kernel) rfl
theorem q585 : (.static yL_locks : Cond) ∈ wsA := inA (k := 585) (by decide +kernel) rfl
set_option maxRecDepth 100000 in
theorem q586 : (.code yL_locks cL_locks 1 (some .boolean) : Cond) ∈ wsA := inA (k := 586) (rfl) rfl
theorem q587 : (.methodLink RL 99 yL_shelf : Cond) ∈ wsA := inA (k := 587) (by decide +kernel) rfl
theorem q588 : (.static yL_shelf : Cond) ∈ wsA := inA (k := 588) (by decide +kernel) rfl
set_option maxRecDepth 100000 in
theorem q589 : (.code yL_shelf cL_shelf 1 (some .boolean) : Cond) ∈ wsA := inA (k := 589) (rfl) rfl
theorem q590 : (.methodLink RL 109 yL_partly : Cond) ∈ wsA := inA (k := 590) (by decide +kernel) rfl
theorem q591 : (.static yL_partly : Cond) ∈ wsA := inA (k := 591) (by decide +kernel) rfl
set_option maxRecDepth 100000 in
theorem q592 : (.code yL_partly cL_partly 2 (some .boolean) : Cond) ∈ wsA := inA (k := 592) (rfl) rfl
