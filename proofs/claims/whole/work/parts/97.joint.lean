/-! the law: its links; the two sides together -/
theorem cl_ISE : Cond.classLink RL 13 "java/lang/IllegalStateException" ∈ LW := t3_72
theorem cl_IAE : Cond.classLink RL 19 "java/lang/IllegalArgumentException" ∈ LW := t3_153
theorem cl_IOB : Cond.classLink RL 29 "java/lang/IndexOutOfBoundsException" ∈ LW := t3_193
theorem cl_NSE : Cond.classLink RL 31 "java/util/NoSuchElementException" ∈ LW := t3_194
theorem lkw_appendInput : Cond.methodLink RL 196 yL_appendInput ∈ LW := t3_69
theorem mst_L_appendInput : Cond.static yL_appendInput ∈ LW := t3_70
theorem mwh_L_appendInput : zMWH yL_appendInput cL_appendInput 8 (some .int) [(0, 16, 19, 13)] 7 := ⟨t3_71, t1_0, by decide +kernel, by decide +kernel, by decide +kernel⟩
theorem lkw_truncateInput : Cond.methodLink RL 205 yL_truncateInput ∈ LW := t3_150
theorem mst_L_truncateInput : Cond.static yL_truncateInput ∈ LW := t3_151
theorem mwh_L_truncateInput : zMWH yL_truncateInput cL_truncateInput 4 (some .int) [(0, 9, 12, 19)] 3 := ⟨t3_152, t1_0, by decide +kernel, by decide +kernel, by decide +kernel⟩
theorem lkw_load : Cond.methodLink RL 209 yL_load ∈ LW := t3_174
theorem mst_L_load : Cond.static yL_load ∈ LW := t3_175
theorem mwh_L_load : zMWH yL_load cL_load 3 (some .int) [(0, 8, 11, 19)] 2 := ⟨t3_176, t1_0, by decide +kernel, by decide +kernel, by decide +kernel⟩
theorem lkw_readerNameByte : Cond.methodLink RL 229 yL_readerNameByte ∈ LW := t3_190
theorem mst_L_readerNameByte : Cond.static yL_readerNameByte ∈ LW := t3_191
theorem mwh_L_readerNameByte : zMWH yL_readerNameByte cL_readerNameByte 5 (some .int) [(0, 10, 13, 29), (0, 10, 17, 31)] 4 := ⟨t3_192, t1_0, by decide +kernel, by decide +kernel, by decide +kernel⟩
theorem lkw_escapeMethod : Cond.methodLink RL 233 yL_escapeMethod ∈ LW := t4_0
theorem mst_L_escapeMethod : Cond.static yL_escapeMethod ∈ LW := t4_1
theorem mwh_L_escapeMethod : zMWH yL_escapeMethod cL_escapeMethod 4 (some .int) [(0, 9, 12, 29)] 3 := ⟨t4_2, t1_0, by decide +kernel, by decide +kernel, by decide +kernel⟩
theorem lkw_documentLength : Cond.methodLink RL 240 yL_documentLength ∈ LW := t4_7
theorem mst_L_documentLength : Cond.static yL_documentLength ∈ LW := t4_8
theorem mwh_L_documentLength : zMWH yL_documentLength cL_documentLength 4 (some .int) [(0, 9, 12, 29)] 3 := ⟨t4_9, t1_0, by decide +kernel, by decide +kernel, by decide +kernel⟩
theorem lkw_documentSymbol : Cond.methodLink RL 243 yL_documentSymbol ∈ LW := t4_20
theorem mst_L_documentSymbol : Cond.static yL_documentSymbol ∈ LW := t4_21
theorem mwh_L_documentSymbol : zMWH yL_documentSymbol cL_documentSymbol 5 (some .int) [(0, 10, 13, 29), (0, 10, 17, 31)] 4 := ⟨t4_22, t1_0, by decide +kernel, by decide +kernel, by decide +kernel⟩
theorem lkw_documentYear : Cond.methodLink RL 246 yL_documentYear ∈ LW := t4_29
theorem mst_L_documentYear : Cond.static yL_documentYear ∈ LW := t4_30
theorem mwh_L_documentYear : zMWH yL_documentYear cL_documentYear 4 (some .int) [(0, 9, 12, 29)] 3 := ⟨t4_31, t1_0, by decide +kernel, by decide +kernel, by decide +kernel⟩
theorem lkw_countOrder0 : Cond.methodLink RL 249 yL_countOrder0 ∈ LW := t4_36
theorem mst_L_countOrder0 : Cond.static yL_countOrder0 ∈ LW := t4_37
theorem mwh_L_countOrder0 : zMWH yL_countOrder0 cL_countOrder0 5 (some .int) [(0, 10, 13, 29), (0, 10, 17, 19)] 4 := ⟨t4_38, t1_0, by decide +kernel, by decide +kernel, by decide +kernel⟩
theorem lkw_countOrder1 : Cond.methodLink RL 252 yL_countOrder1 ∈ LW := t4_55
theorem mst_L_countOrder1 : Cond.static yL_countOrder1 ∈ LW := t4_56
theorem mwh_L_countOrder1 : zMWH yL_countOrder1 cL_countOrder1 6 (some .int) [(0, 12, 15, 29), (0, 12, 19, 19)] 5 := ⟨t4_57, t1_0, by decide +kernel, by decide +kernel, by decide +kernel⟩
theorem lkw_countOrder2 : Cond.methodLink RL 256 yL_countOrder2 ∈ LW := t4_62
theorem mst_L_countOrder2 : Cond.static yL_countOrder2 ∈ LW := t4_63
theorem mwh_L_countOrder2 : zMWH yL_countOrder2 cL_countOrder2 7 (some .int) [(0, 14, 17, 29), (0, 14, 21, 19)] 6 := ⟨t4_64, t1_0, by decide +kernel, by decide +kernel, by decide +kernel⟩
theorem lkw_contextTotal : Cond.methodLink RL 260 yL_contextTotal ∈ LW := t4_69
theorem mst_L_contextTotal : Cond.static yL_contextTotal ∈ LW := t4_70
theorem mwh_L_contextTotal : zMWH yL_contextTotal cL_contextTotal 6 (some .int) [(0, 12, 15, 29), (0, 12, 19, 19)] 5 := ⟨t4_71, t1_0, by decide +kernel, by decide +kernel, by decide +kernel⟩
theorem lkw_contextSymbols : Cond.methodLink RL 263 yL_contextSymbols ∈ LW := t4_85
theorem mst_L_contextSymbols : Cond.static yL_contextSymbols ∈ LW := t4_86
theorem mwh_L_contextSymbols : zMWH yL_contextSymbols cL_contextSymbols 6 (some .int) [(0, 12, 15, 29), (0, 12, 19, 19)] 5 := ⟨t4_87, t1_0, by decide +kernel, by decide +kernel, by decide +kernel⟩
theorem lkw_order2Contexts : Cond.methodLink RL 266 yL_order2Contexts ∈ LW := t4_96
theorem mst_L_order2Contexts : Cond.static yL_order2Contexts ∈ LW := t4_97
theorem mwh_L_order2Contexts : zMWH yL_order2Contexts cL_order2Contexts 4 (some .int) [(0, 9, 12, 29)] 3 := ⟨t4_98, t1_0, by decide +kernel, by decide +kernel, by decide +kernel⟩
theorem lkw_positiveCounts : Cond.methodLink RL 269 yL_positiveCounts ∈ LW := t4_107
theorem mst_L_positiveCounts : Cond.static yL_positiveCounts ∈ LW := t4_108
theorem mwh_L_positiveCounts : zMWH yL_positiveCounts cL_positiveCounts 4 (some .int) [(0, 9, 12, 29)] 3 := ⟨t4_109, t1_0, by decide +kernel, by decide +kernel, by decide +kernel⟩
theorem lkw_timesTrained : Cond.methodLink RL 272 yL_timesTrained ∈ LW := t4_114
theorem mst_L_timesTrained : Cond.static yL_timesTrained ∈ LW := t4_115
theorem mwh_L_timesTrained : zMWH yL_timesTrained cL_timesTrained 5 (some .int) [(0, 10, 13, 29)] 4 := ⟨t4_116, t1_0, by decide +kernel, by decide +kernel, by decide +kernel⟩
theorem lkw_trainedSymbols : Cond.methodLink RL 275 yL_trainedSymbols ∈ LW := t4_125
theorem mst_L_trainedSymbols : Cond.static yL_trainedSymbols ∈ LW := t4_126
theorem mwh_L_trainedSymbols : zMWH yL_trainedSymbols cL_trainedSymbols 4 (some .int) [(0, 9, 12, 29)] 3 := ⟨t4_127, t1_0, by decide +kernel, by decide +kernel, by decide +kernel⟩
theorem lkw_trainingGap : Cond.methodLink RL 278 yL_trainingGap ∈ LW := t4_132
theorem mst_L_trainingGap : Cond.static yL_trainingGap ∈ LW := t4_133
theorem mwh_L_trainingGap : zMWH yL_trainingGap cL_trainingGap 4 (some .int) [(0, 9, 12, 29)] 3 := ⟨t4_134, t1_0, by decide +kernel, by decide +kernel, by decide +kernel⟩
theorem lkw_symbolAtRank : Cond.methodLink RL 281 yL_symbolAtRank ∈ LW := t4_139
theorem mst_L_symbolAtRank : Cond.static yL_symbolAtRank ∈ LW := t4_140
theorem mwh_L_symbolAtRank : zMWH yL_symbolAtRank cL_symbolAtRank 7 (some .int) [(0, 14, 17, 29), (0, 14, 21, 19)] 6 := ⟨t4_141, t1_0, by decide +kernel, by decide +kernel, by decide +kernel⟩
theorem lkw_rank : Cond.methodLink RL 284 yL_rank ∈ LW := t4_170
theorem mst_L_rank : Cond.static yL_rank ∈ LW := t4_171
theorem mwh_L_rank : zMWH yL_rank cL_rank 7 (some .int) [(0, 14, 17, 29), (0, 14, 21, 19)] 6 := ⟨t4_172, t1_0, by decide +kernel, by decide +kernel, by decide +kernel⟩
theorem lkw_foundOrder : Cond.methodLink RL 287 yL_foundOrder ∈ LW := t4_185
theorem mst_L_foundOrder : Cond.static yL_foundOrder ∈ LW := t4_186
theorem mwh_L_foundOrder : zMWH yL_foundOrder cL_foundOrder 7 (some .int) [(0, 14, 17, 29), (0, 14, 21, 19)] 6 := ⟨t4_187, t1_0, by decide +kernel, by decide +kernel, by decide +kernel⟩
theorem lkw_escapes : Cond.methodLink RL 290 yL_escapes ∈ LW := t4_195
theorem mst_L_escapes : Cond.static yL_escapes ∈ LW := t4_196
theorem mwh_L_escapes : zMWH yL_escapes cL_escapes 7 (some .int) [(0, 14, 17, 29), (0, 14, 21, 19)] 6 := ⟨t4_197, t1_0, by decide +kernel, by decide +kernel, by decide +kernel⟩
theorem lkw_numerator : Cond.methodLink RL 293 yL_numerator ∈ LW := t4_230
theorem mst_L_numerator : Cond.static yL_numerator ∈ LW := t4_231
theorem mwh_L_numerator : zMWH yL_numerator cL_numerator 7 (some .int) [(0, 13, 16, 29), (0, 13, 20, 19)] 6 := ⟨t4_232, t1_0, by decide +kernel, by decide +kernel, by decide +kernel⟩
theorem lkw_denominator : Cond.methodLink RL 296 yL_denominator ∈ LW := t4_237
theorem mst_L_denominator : Cond.static yL_denominator ∈ LW := t4_238
theorem mwh_L_denominator : zMWH yL_denominator cL_denominator 7 (some .int) [(0, 13, 16, 29), (0, 13, 20, 19)] 6 := ⟨t4_239, t1_0, by decide +kernel, by decide +kernel, by decide +kernel⟩
theorem lkw_probability : Cond.methodLink RL 299 yL_probability ∈ LW := t5_4
theorem mst_L_probability : Cond.static yL_probability ∈ LW := t5_5
theorem mwh_L_probability : zMWH yL_probability cL_probability 7 (some .int) [(0, 13, 16, 29), (0, 13, 20, 19)] 6 := ⟨t5_6, t1_0, by decide +kernel, by decide +kernel, by decide +kernel⟩
theorem lkw_codeLength : Cond.methodLink RL 303 yL_codeLength ∈ LW := t5_11
theorem mst_L_codeLength : Cond.static yL_codeLength ∈ LW := t5_12
theorem mwh_L_codeLength : zMWH yL_codeLength cL_codeLength 7 (some .int) [(0, 14, 17, 29), (0, 14, 21, 19)] 6 := ⟨t5_13, t1_0, by decide +kernel, by decide +kernel, by decide +kernel⟩
theorem lkw_rankAt : Cond.methodLink RL 306 yL_rankAt ∈ LW := t5_23
theorem mst_L_rankAt : Cond.static yL_rankAt ∈ LW := t5_24
theorem mwh_L_rankAt : zMWH yL_rankAt cL_rankAt 6 (some .int) [(0, 12, 15, 29), (0, 12, 19, 31)] 5 := ⟨t5_25, t1_0, by decide +kernel, by decide +kernel, by decide +kernel⟩
theorem lkw_totalGuesses : Cond.methodLink RL 309 yL_totalGuesses ∈ LW := t5_34
theorem mst_L_totalGuesses : Cond.static yL_totalGuesses ∈ LW := t5_35
theorem mwh_L_totalGuesses : zMWH yL_totalGuesses cL_totalGuesses 5 (some .int) [(0, 10, 13, 29)] 4 := ⟨t5_36, t1_0, by decide +kernel, by decide +kernel, by decide +kernel⟩
theorem lkw_adaptiveGuesses : Cond.methodLink RL 312 yL_adaptiveGuesses ∈ LW := t5_45
theorem mst_L_adaptiveGuesses : Cond.static yL_adaptiveGuesses ∈ LW := t5_46
theorem mwh_L_adaptiveGuesses : zMWH yL_adaptiveGuesses cL_adaptiveGuesses 5 (some .int) [(0, 10, 13, 29)] 4 := ⟨t5_47, t1_0, by decide +kernel, by decide +kernel, by decide +kernel⟩
theorem lkw_firstGuessHits : Cond.methodLink RL 315 yL_firstGuessHits ∈ LW := t5_58
theorem mst_L_firstGuessHits : Cond.static yL_firstGuessHits ∈ LW := t5_59
theorem mwh_L_firstGuessHits : zMWH yL_firstGuessHits cL_firstGuessHits 5 (some .int) [(0, 10, 13, 29)] 4 := ⟨t5_60, t1_0, by decide +kernel, by decide +kernel, by decide +kernel⟩
theorem lkw_unseenSymbols : Cond.methodLink RL 318 yL_unseenSymbols ∈ LW := t5_69
theorem mst_L_unseenSymbols : Cond.static yL_unseenSymbols ∈ LW := t5_70
theorem mwh_L_unseenSymbols : zMWH yL_unseenSymbols cL_unseenSymbols 5 (some .int) [(0, 10, 13, 29)] 4 := ⟨t5_71, t1_0, by decide +kernel, by decide +kernel, by decide +kernel⟩
theorem lkw_hardestPosition : Cond.methodLink RL 321 yL_hardestPosition ∈ LW := t5_76
theorem mst_L_hardestPosition : Cond.static yL_hardestPosition ∈ LW := t5_77
theorem mwh_L_hardestPosition : zMWH yL_hardestPosition cL_hardestPosition 5 (some .int) [(0, 10, 13, 29)] 4 := ⟨t5_78, t1_0, by decide +kernel, by decide +kernel, by decide +kernel⟩
theorem lkw_totalBits : Cond.methodLink RL 324 yL_totalBits ∈ LW := t5_83
theorem mst_L_totalBits : Cond.static yL_totalBits ∈ LW := t5_84
theorem mwh_L_totalBits : zMWH yL_totalBits cL_totalBits 5 (some .int) [(0, 10, 13, 29)] 4 := ⟨t5_85, t1_0, by decide +kernel, by decide +kernel, by decide +kernel⟩
theorem lkw_meanGuesses : Cond.methodLink RL 327 yL_meanGuesses ∈ LW := t5_90
theorem mst_L_meanGuesses : Cond.static yL_meanGuesses ∈ LW := t5_91
theorem mwh_L_meanGuesses : zMWH yL_meanGuesses cL_meanGuesses 5 (some .int) [(0, 9, 12, 29)] 4 := ⟨t5_92, t1_0, by decide +kernel, by decide +kernel, by decide +kernel⟩
theorem lkw_hitShare : Cond.methodLink RL 331 yL_hitShare ∈ LW := t5_97
theorem mst_L_hitShare : Cond.static yL_hitShare ∈ LW := t5_98
theorem mwh_L_hitShare : zMWH yL_hitShare cL_hitShare 5 (some .int) [(0, 10, 13, 29)] 4 := ⟨t5_99, t1_0, by decide +kernel, by decide +kernel, by decide +kernel⟩
theorem lkw_bestReader : Cond.methodLink RL 334 yL_bestReader ∈ LW := t5_104
theorem mst_L_bestReader : Cond.static yL_bestReader ∈ LW := t5_105
theorem mwh_L_bestReader : zMWH yL_bestReader cL_bestReader 4 (some .int) [(0, 9, 12, 29)] 3 := ⟨t5_106, t1_0, by decide +kernel, by decide +kernel, by decide +kernel⟩
theorem lkw_hardestDocument : Cond.methodLink RL 337 yL_hardestDocument ∈ LW := t5_111
theorem mst_L_hardestDocument : Cond.static yL_hardestDocument ∈ LW := t5_112
theorem mwh_L_hardestDocument : zMWH yL_hardestDocument cL_hardestDocument 4 (some .int) [(0, 9, 12, 29)] 3 := ⟨t5_113, t1_0, by decide +kernel, by decide +kernel, by decide +kernel⟩
theorem lkw_guessesAfterTraining : Cond.methodLink RL 340 yL_guessesAfterTraining ∈ LW := t5_118
theorem mst_L_guessesAfterTraining : Cond.static yL_guessesAfterTraining ∈ LW := t5_119
theorem mwh_L_guessesAfterTraining : zMWH yL_guessesAfterTraining cL_guessesAfterTraining 6 (some .int) [(0, 12, 15, 29)] 5 := ⟨t5_120, t1_0, by decide +kernel, by decide +kernel, by decide +kernel⟩
theorem lkw_trainingsNeeded : Cond.methodLink RL 343 yL_trainingsNeeded ∈ LW := t5_126
theorem mst_L_trainingsNeeded : Cond.static yL_trainingsNeeded ∈ LW := t5_127
theorem mwh_L_trainingsNeeded : zMWH yL_trainingsNeeded cL_trainingsNeeded 6 (some .int) [(0, 12, 15, 29), (0, 12, 19, 19)] 5 := ⟨t5_128, t1_0, by decide +kernel, by decide +kernel, by decide +kernel⟩
theorem lkw_yearsToForget : Cond.methodLink RL 346 yL_yearsToForget ∈ LW := t5_134
theorem mst_L_yearsToForget : Cond.static yL_yearsToForget ∈ LW := t5_135
theorem mwh_L_yearsToForget : zMWH yL_yearsToForget cL_yearsToForget 4 (some .int) [(0, 9, 12, 29)] 3 := ⟨t5_136, t1_0, by decide +kernel, by decide +kernel, by decide +kernel⟩
theorem lkw_agreements : Cond.methodLink RL 349 yL_agreements ∈ LW := t5_148
theorem mst_L_agreements : Cond.static yL_agreements ∈ LW := t5_149
theorem mwh_L_agreements : zMWH yL_agreements cL_agreements 5 (some .int) [(0, 10, 13, 29), (0, 10, 17, 19)] 4 := ⟨t5_150, t1_0, by decide +kernel, by decide +kernel, by decide +kernel⟩
theorem lkw_addReader : Cond.methodLink RL 352 yL_addReader ∈ LW := t5_160
theorem mst_L_addReader : Cond.static yL_addReader ∈ LW := t5_161
theorem mwh_L_addReader : zMWH yL_addReader cL_addReader 4 (some .int) [(0, 9, 12, 19), (0, 9, 15, 13)] 3 := ⟨t5_162, t1_0, by decide +kernel, by decide +kernel, by decide +kernel⟩
theorem lkw_addDocument : Cond.methodLink RL 355 yL_addDocument ∈ LW := t5_176
theorem mst_L_addDocument : Cond.static yL_addDocument ∈ LW := t5_177
theorem mwh_L_addDocument : zMWH yL_addDocument cL_addDocument 3 (some .int) [(0, 8, 11, 19), (0, 8, 14, 13)] 2 := ⟨t5_178, t1_0, by decide +kernel, by decide +kernel, by decide +kernel⟩
theorem lkw_train : Cond.methodLink RL 358 yL_train ∈ LW := t5_187
theorem mst_L_train : Cond.static yL_train ∈ LW := t5_188
theorem mwh_L_train : zMWH yL_train cL_train 5 (some .int) [(0, 10, 13, 29)] 4 := ⟨t5_189, t1_0, by decide +kernel, by decide +kernel, by decide +kernel⟩
theorem lkw_learn : Cond.methodLink RL 361 yL_learn ∈ LW := t5_195
theorem mst_L_learn : Cond.static yL_learn ∈ LW := t5_196
theorem mwh_L_learn : zMWH yL_learn cL_learn 5 (some .int) [(0, 10, 13, 29)] 4 := ⟨t5_197, t1_0, by decide +kernel, by decide +kernel, by decide +kernel⟩
theorem lkw_forget : Cond.methodLink RL 364 yL_forget ∈ LW := t5_202
theorem mst_L_forget : Cond.static yL_forget ∈ LW := t5_203
theorem mwh_L_forget : zMWH yL_forget cL_forget 4 (some .int) [(0, 9, 12, 29)] 3 := ⟨t5_204, t1_0, by decide +kernel, by decide +kernel, by decide +kernel⟩
theorem lkw_setEscapeMethod : Cond.methodLink RL 367 yL_setEscapeMethod ∈ LW := t5_210
theorem mst_L_setEscapeMethod : Cond.static yL_setEscapeMethod ∈ LW := t5_211
theorem mwh_L_setEscapeMethod : zMWH yL_setEscapeMethod cL_setEscapeMethod 5 (some .int) [(0, 10, 13, 29), (0, 10, 17, 19)] 4 := ⟨t5_212, t1_0, by decide +kernel, by decide +kernel, by decide +kernel⟩
theorem lkw_merge : Cond.methodLink RL 374 yL_merge ∈ LW := t5_217
theorem mst_L_merge : Cond.static yL_merge ∈ LW := t5_218
theorem mwh_L_merge : zMWH yL_merge cL_merge 5 (some .int) [(0, 10, 13, 29), (0, 10, 17, 19)] 4 := ⟨t5_219, t1_0, by decide +kernel, by decide +kernel, by decide +kernel⟩
theorem lkw_encode : Cond.methodLink RL 377 yL_encode ∈ LW := t5_232
theorem mst_L_encode : Cond.static yL_encode ∈ LW := t5_233
theorem mwh_L_encode : zMWH yL_encode cL_encode 5 (some .int) [(0, 10, 13, 29)] 4 := ⟨t5_234, t1_0, by decide +kernel, by decide +kernel, by decide +kernel⟩
theorem lkw_decode : Cond.methodLink RL 380 yL_decode ∈ LW := t6_3
theorem mst_L_decode : Cond.static yL_decode ∈ LW := t6_4
theorem mwh_L_decode : zMWH yL_decode cL_decode 4 (some .int) [(0, 9, 12, 29), (0, 9, 15, 19)] 3 := ⟨t6_5, t1_0, by decide +kernel, by decide +kernel, by decide +kernel⟩
theorem lkw_writeExpected : Cond.methodLink RL 383 yL_writeExpected ∈ LW := t6_22
theorem mst_L_writeExpected : Cond.static yL_writeExpected ∈ LW := t6_23
theorem mwh_L_writeExpected : zMWH yL_writeExpected cL_writeExpected 5 (some .int) [(0, 10, 13, 29), (0, 10, 17, 19)] 4 := ⟨t6_24, t1_0, by decide +kernel, by decide +kernel, by decide +kernel⟩
theorem lkw_outputByte : Cond.methodLink RL 386 yL_outputByte ∈ LW := t6_29
theorem mst_L_outputByte : Cond.static yL_outputByte ∈ LW := t6_30
theorem mwh_L_outputByte : zMWH yL_outputByte cL_outputByte 4 (some .int) [(0, 9, 12, 31)] 3 := ⟨t6_31, t1_0, by decide +kernel, by decide +kernel, by decide +kernel⟩
theorem lkw_save : Cond.methodLink RL 389 yL_save ∈ LW := t6_37
theorem mst_L_save : Cond.static yL_save ∈ LW := t6_38
theorem mwh_L_save : zMWH yL_save cL_save 4 (some .int) [(0, 9, 12, 29)] 3 := ⟨t6_39, t1_0, by decide +kernel, by decide +kernel, by decide +kernel⟩
theorem lkw_restore : Cond.methodLink RL 392 yL_restore ∈ LW := t6_48
theorem mst_L_restore : Cond.static yL_restore ∈ LW := t6_49
theorem mwh_L_restore : zMWH yL_restore cL_restore 4 (some .int) [(0, 9, 12, 29), (0, 9, 15, 13)] 3 := ⟨t6_50, t1_0, by decide +kernel, by decide +kernel, by decide +kernel⟩
theorem lkw_undo : Cond.methodLink RL 395 yL_undo ∈ LW := t6_56
theorem mst_L_undo : Cond.static yL_undo ∈ LW := t6_57
theorem mwh_L_undo : zMWH yL_undo cL_undo 3 (some .int) [(0, 8, 11, 13)] 2 := ⟨t6_58, t1_0, by decide +kernel, by decide +kernel, by decide +kernel⟩
theorem hFc.frm {γ : zG} {M M' : zM} {U : Nat → Nat} {Y : zSys} {S : List Nat} (h : hFc γ M U Y) (f : zFr M M' S) (hS : ∀ i, i < 532 → U i ∉ S) : hFc γ M' U Y := by
  obtain ⟨hI, pn, Z, iF, oF, hZ, hF, hX, h1, h2⟩ := h
  exact ⟨hI, pn, Z, iF, oF, hZ, hF.fr f (hS 0 (by omega)), hX.fr f hS, h1, h2⟩
theorem hMo.frm {γ : zG} {M M' : zM} {A : Nat → Nat} {Y : zSys} {th : Int} (h : hMo γ M A Y th) (q : ∀ j, j < 15 → M' (A j) = M (A j)) : hMo γ M' A Y th := by
  unfold hMo hMf mSc mUn mSlo mIn mOu mCu mRst at h ⊢
  rw [q 0 (by omega), q 1 (by omega), q 2 (by omega), q 3 (by omega), q 4 (by omega), q 5 (by omega), q 6 (by omega), q 7 (by omega), q 8 (by omega), q 9 (by omega), q 10 (by omega), q 11 (by omega), q 12 (by omega), q 13 (by omega), q 14 (by omega)]
  exact h
theorem zU_no {U : Nat → Nat} {o : Nat} (h : ∀ i, i < 532 → U i ≠ o) : o ∉ zFU U := fun w => by
  obtain ⟨i, h1, h2⟩ := zRm.mp w
  exact h i h1 h2
/-- what a call leaves: it changes the whole only if it ends well -/
def zYs (q : Int × Int) (Y' Y : zSys) : zSys := if q.1 = 0 then Y' else Y
theorem zYs_t {q : Int × Int} {Y' Y : zSys} (h : q.1 = 0) : zYs q Y' Y = Y' := if_pos h
theorem zYs_f {q : Int × Int} {Y' Y : zSys} (h : q.1 ≠ 0) : zYs q Y' Y = Y := if_neg h
/-- a wrapper's end -/
def wJ (γ : zG) (M : zM) (U : Nat → Nat) (o : Nat) (Y : zSys) (q : Int × Int) (V : Int64) : Option Value → zM → Prop := fun v' M' => v' = some (.int (zi q.1)) ∧ (q.1 = 0 ∨ q.1 = 1 ∨ q.1 = 2) ∧ zFr M M' (o :: zFU U) ∧ hFc γ M' U Y ∧ ∃ f, M' o = some (zaJ γ 1 f) ∧ (q.1 = 0 → f 0 = V)
def wD (γ : zG) (M : zM) (U : Nat → Nat) (o : Nat) (Y : zSys) (q : Int × Int) (V : UInt64) : Option Value → zM → Prop := fun v' M' => v' = some (.int (zi q.1)) ∧ (q.1 = 0 ∨ q.1 = 1 ∨ q.1 = 2) ∧ zFr M M' (o :: zFU U) ∧ hFc γ M' U Y ∧ ∃ f, M' o = some (zaD γ 1 f) ∧ (q.1 = 0 → f 0 = V)
theorem wJ.x {γ : zG} {M M' : zM} {U : Nat → Nat} {o : Nat} {Y : zSys} {q : Int × Int} {V : Int64} {f : Nat → Int64} {t : Int} (h : fOk γ M M' U Y) (ho : M o = some (zaJ γ 1 f)) (hoU : ∀ i, i < 532 → U i ≠ o) (hq : q.1 = t) (ht : t = 1 ∨ t = 2) : wJ γ M U o Y q V (some (.int (zi t))) M' := ⟨by rw [hq], .inr (by rw [hq]; exact ht), fun b hb => h.1 b (fun w => hb (List.mem_cons_of_mem _ w)), h.2, f, h.1.at (zU_no hoU) ho, fun w => by omega⟩
theorem wJ.r {γ : zG} {M M' : zM} {U : Nat → Nat} {o : Nat} {Y : zSys} {q : Int × Int} {V : Int64} {f : Nat → Int64} (h : fOk γ M M' U Y) (hoU : ∀ i, i < 532 → U i ≠ o) (hq : q.1 = 0) : wJ γ M U o Y q V (some (.int (zi 0))) (va_up M' o (some (zaJ γ 1 (va_up f 0 V)))) :=
  ⟨by rw [hq], .inl hq, fun b hb => by
    rw [va_up_ne _ _ (fun w => hb (by rw [w]; exact List.mem_cons_self))]
    exact h.1 b (fun w => hb (List.mem_cons_of_mem _ w)), h.2.frm (zFr.u1 zFr.rf List.mem_cons_self) (fun i hi w => hoU i hi (List.mem_singleton.mp w)), _, va_up_self _ _ _, fun _ => va_up_self _ _ _⟩
theorem wD.x {γ : zG} {M M' : zM} {U : Nat → Nat} {o : Nat} {Y : zSys} {q : Int × Int} {V : UInt64} {f : Nat → UInt64} {t : Int} (h : fOk γ M M' U Y) (ho : M o = some (zaD γ 1 f)) (hoU : ∀ i, i < 532 → U i ≠ o) (hq : q.1 = t) (ht : t = 1 ∨ t = 2) : wD γ M U o Y q V (some (.int (zi t))) M' := ⟨by rw [hq], .inr (by rw [hq]; exact ht), fun b hb => h.1 b (fun w => hb (List.mem_cons_of_mem _ w)), h.2, f, h.1.at (zU_no hoU) ho, fun w => by omega⟩
theorem wD.r {γ : zG} {M M' : zM} {U : Nat → Nat} {o : Nat} {Y : zSys} {q : Int × Int} {V : UInt64} {f : Nat → UInt64} (h : fOk γ M M' U Y) (hoU : ∀ i, i < 532 → U i ≠ o) (hq : q.1 = 0) : wD γ M U o Y q V (some (.int (zi 0))) (va_up M' o (some (zaD γ 1 (va_up f 0 V)))) :=
  ⟨by rw [hq], .inl hq, fun b hb => by
    rw [va_up_ne _ _ (fun w => hb (by rw [w]; exact List.mem_cons_self))]
    exact h.1 b (fun w => hb (List.mem_cons_of_mem _ w)), h.2.frm (zFr.u1 zFr.rf List.mem_cons_self) (fun i hi w => hoU i hi (List.mem_singleton.mp w)), _, va_up_self _ _ _, fun _ => va_up_self _ _ _⟩
theorem zf2d_k : ∀ x : Fin 41, ∀ y : Fin 41, 1 ≤ y.val → vf_n64 (FP.f2d (FP.fdiv (FP.i2f (zi x.val)) (FP.i2f (zi y.val)))) ∧ Op.cmpValue (FP.dcmp (FP.f2d (FP.fdiv (FP.i2f (zi x.val)) (FP.i2f (zi y.val)))) (FP.f2d (FP.fdiv (FP.i2f (zi x.val)) (FP.i2f (zi y.val))))) .l = 0 := by
  unfold vf_n64
  decide +kernel
theorem hit_n {Y : zSys} {rr dd : Int} (hk : yOk Y) (h0 : (q_hitShare (yS Y) rr dd).1 = 0) : vf_n64 (FP.f2d (x_hitShare (yS Y) rr dd)) ∧ Op.cmpValue (FP.dcmp (FP.f2d (x_hitShare (yS Y) rr dd)) (FP.f2d (x_hitShare (yS Y) rr dd))) .l = 0 := by
  have g : 0 ≤ dd ∧ dd < sDn (yS Y) := by
    by_cases g1 : 0 ≤ rr ∧ rr < sRn (yS Y)
    · by_cases g2 : 0 ≤ dd ∧ dd < sDn (yS Y)
      · exact g2
      · rw [q_hitShare, zqR_t g1, zqD_f g2] at h0
        exact absurd h0 (by decide)
    · rw [q_hitShare, zqR_f g1] at h0
      exact absurd h0 (by decide)
  have hd := hk.1.2.1 dd.toNat (by omega)
  have r := zhf_rng (c := rC (sRd (yS Y) rr.toNat)) hd
  have r2 := hd.1
  have := zf2d_k ⟨(zhf (rC (sRd (yS Y) rr.toNat)) (sDc (yS Y) dd.toNat)).toNat, by omega⟩ ⟨(dLe (sDc (yS Y) dd.toNat)).toNat, by omega⟩ (by show 1 ≤ (dLe (sDc (yS Y) dd.toNat)).toNat; omega)
  rw [show (((zhf (rC (sRd (yS Y) rr.toNat)) (sDc (yS Y) dd.toNat)).toNat : Nat) : Int) = zhf (rC (sRd (yS Y) rr.toNat)) (sDc (yS Y) dd.toNat) by omega, show (((dLe (sDc (yS Y) dd.toNat)).toNat : Nat) : Int) = dLe (sDc (yS Y) dd.toNat) by omega] at this
  exact this
section ZM8
variable {p : Program} {l : Launch} {e : Env} {R : Room} {s : State} {m : MethodId} {args : Array Value} {below : List Frame} {meth : Method} {c : Code} {γ : zG} {cc : ByteArray} {nL : Nat} {ret : Option FieldType} {own : String} {xt : List ExceptionTableEntry} {Q : State → Prop} {M : zM} {k n pc : Nat} {L : zL} {st : List Value}
theorem z_f2d (C : zC p l s m args meth c γ cc nL ret own xt) {x : UInt32} (hd : decode cc pc = .ok (.f2d, 1)) (hv : vf_n64 (FP.f2d x)) (kk : zAW p l e R s m args below meth c γ nL Q M k n (pc + 1) L (.double (FP.f2d x) :: st)) : zAW p l e R s m args below meth c γ nL Q M k n pc L (.float x :: st) := by
  intro H locs ls hH hl hL hz
  exact lv_f2d C.ex C.by hd hv (kk H locs ls hH hl hL hz)
theorem z_dcmp (C : zC p l s m args meth c γ cc nL ret own xt) {x y : UInt64} {op : CmpOp} (hd : decode cc pc = .ok (.dcmp op, 1)) (kk : zAW p l e R s m args below meth c γ nL Q M k n (pc + 1) L (.int (Op.cmpValue (FP.dcmp x y) op) :: st)) : zAW p l e R s m args below meth c γ nL Q M k n pc L (.double y :: .double x :: st) := by
  intro H locs ls hH hl hL hz
  exact lv_dcmp C.ex C.by hd (kk H locs ls hH hl hL hz)
theorem z_loc {L' : zL} (h : ∀ k v, zg L' k = some v → zg L k = some v) (kk : zAW p l e R s m args below meth c γ nL Q M k n pc L' st) : zAW p l e R s m args below meth c γ nL Q M k n pc L st := fun H locs ls hH hl hL hz => kk H locs ls hH hl ⟨hL.1, hL.2.1, fun q hq => hL.2.2 q (by
  obtain ⟨k, h1, h2⟩ := (zPr_mem _ _ _ _).mp (show (q.1, q.2) ∈ _ from hq)
  exact (zPr_mem _ _ _ _).mpr ⟨k, h1, h _ _ h2⟩)⟩ hz
theorem z_wid {k' n' : Nat} (hk : k ≤ k') (hn : n ≤ n') (kk : zAW p l e R s m args below meth c γ nL Q M k' n' pc L st) : zAW p l e R s m args below meth c γ nL Q M k n pc L st := fun H locs ls hH hl hL hz => W.widen hk hn (kk H locs ls hH hl hL hz)
/-- at a case's end the law's own numbers are forgotten -/
theorem z_fg {a0 a1 a2 a3 a4 a5 : Option Value} {k' n' : Nat} (hk : k ≤ k') (hn : n ≤ n') (hL : ∃ x y z, L = [a0, a1, a2, a3, a4, a5, x, y, z]) (kk : zAW p l e R s m args below meth c γ nL Q M k' n' pc [a0, a1, a2, a3, a4, a5, none, none, none] st) : zAW p l e R s m args below meth c γ nL Q M k n pc L st := by
  obtain ⟨x, y, z, rfl⟩ := hL
  refine z_wid hk hn (z_loc (fun j v h => ?_) kk)
  match j, h with
  | 0, h => exact h
  | 1, h => exact h
  | 2, h => exact h
  | 3, h => exact h
  | 4, h => exact h
  | 5, h => exact h
  | 6, h => cases h
  | 7, h => cases h
  | 8, h => cases h
  | j + 9, h => cases h
end ZM8
/-- both sides together -/
def zJ3 (γ : zG) (M : zM) (U A : Nat → Nat) (Y : zSys) (th : Int) (o d : Nat) : Prop := hFc γ M U Y ∧ yOk Y ∧ hMo γ M A Y th ∧ (∀ i j, i < 532 → j < 15 → U i ≠ A j) ∧ (∃ f, M o = some (zaJ γ 1 f)) ∧ (∃ g, M d = some (zaD γ 1 g)) ∧ (∀ i, i < 532 → U i ≠ o) ∧ (∀ i, i < 532 → U i ≠ d) ∧ (∀ j, j < 15 → A j ≠ o) ∧ (∀ j, j < 15 → A j ≠ d) ∧ o ≠ d
theorem hMo.ob {γ : zG} {M : zM} {A : Nat → Nat} {Y : zSys} {th : Int} (h : hMo γ M A Y th) : ∃ fs, M (A 0) = some (.inr (9, fs)) := by
  obtain ⟨-, F, -, hS, -⟩ := h
  exact ⟨_, hS.1⟩
theorem hFc.ob {γ : zG} {M : zM} {U : Nat → Nat} {Y : zSys} (h : hFc γ M U Y) : ∃ fs, M (U 0) = some (.inr (8, fs)) := by
  obtain ⟨hI, pn, Z, iF, oF, hZ, hF, -, -, -⟩ := h
  exact ⟨_, hF⟩
theorem zUA_f {M M' : zM} {U A : Nat → Nat} {o : Nat} (f : zFr M M' (o :: zFU U)) (h : ∀ i j, i < 532 → j < 15 → U i ≠ A j) (h2 : ∀ j, j < 15 → A j ≠ o) : ∀ j, j < 15 → M' (A j) = M (A j) := fun j hj => f (A j) (fun w => by
  rcases List.mem_cons.mp w with w | w
  · exact h2 j hj w
  · obtain ⟨i, h3, h4⟩ := zRm.mp w
    exact h i j h3 hj h4)
theorem mAll.no {A : Nat → Nat} {b : Nat} (h : ∀ j, j < 15 → A j ≠ b) : b ∉ (List.range 15).map A := fun w => by
  obtain ⟨j, h1, h2⟩ := zRm.mp w
  exact h j h1 h2
theorem zYs_mo {γ : zG} {M : zM} {A : Nat → Nat} {Y Y' : zSys} {q : Int × Int} {b : Int} (h1 : q.1 = 0 → hMo γ M A Y' q.1 ∧ zi b = zi q.2) (h2 : q.1 ≠ 0 → hMo γ M A Y q.1) : hMo γ M A (zYs q Y' Y) q.1 := by
  by_cases e : q.1 = 0
  · rw [zYs_t e]
    exact (h1 e).1
  · rw [zYs_f e]
    exact h2 e
theorem zYs_ok {Y Y' : zSys} {q : Int × Int} (h1 : q.1 = 0 → yOk Y') (h2 : yOk Y) : yOk (zYs q Y' Y) := by
  by_cases e : q.1 = 0
  · rw [zYs_t e]
    exact h1 e
  · rw [zYs_f e]
    exact h2
theorem zq_0 {q : Int × Int} (h : q.1 = 0 ∨ q.1 = 1 ∨ q.1 = 2) (w : zi q.1 = 0) : q.1 = 0 := by
  rcases h with h | h | h
  · exact h
  · rw [h] at w
    exact absurd w (by decide)
  · rw [h] at w
    exact absurd w (by decide)
theorem lg_same (x : Int64) : lg_cmp x x = 0 := by
  unfold lg_cmp
  simp

