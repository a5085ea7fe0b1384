theorem dL_appendInput_0 : decode cL_appendInput 0 = .ok (.aload 6, 2) := by decide +kernel
theorem dL_appendInput_2 : decode cL_appendInput 2 = .ok (.iconst 0, 1) := by decide +kernel
theorem dL_appendInput_3 : decode cL_appendInput 3 = .ok (.aload_n 0, 1) := by decide +kernel
theorem dL_appendInput_4 : decode cL_appendInput 4 = .ok (.iload_n 1, 1) := by decide +kernel
theorem dL_appendInput_5 : decode cL_appendInput 5 = .ok (.iload_n 2, 1) := by decide +kernel
theorem dL_appendInput_6 : decode cL_appendInput 6 = .ok (.iload_n 3, 1) := by decide +kernel
theorem dL_appendInput_7 : decode cL_appendInput 7 = .ok (.iload 4, 2) := by decide +kernel
theorem dL_appendInput_9 : decode cL_appendInput 9 = .ok (.iload 5, 2) := by decide +kernel
theorem dL_appendInput_11 : decode cL_appendInput 11 = .ok (.invokevirtual 7, 3) := by decide +kernel
theorem dL_appendInput_14 : decode cL_appendInput 14 = .ok (.i2l, 1) := by decide +kernel
theorem dL_appendInput_15 : decode cL_appendInput 15 = .ok (.lastore, 1) := by decide +kernel
theorem dL_appendInput_16 : decode cL_appendInput 16 = .ok (.goto 7, 3) := by decide +kernel
theorem dL_appendInput_19 : decode cL_appendInput 19 = .ok (.astore 7, 2) := by decide +kernel
theorem dL_appendInput_21 : decode cL_appendInput 21 = .ok (.iconst 1, 1) := by decide +kernel
theorem dL_appendInput_22 : decode cL_appendInput 22 = .ok (.ireturn, 1) := by decide +kernel
theorem dL_appendInput_23 : decode cL_appendInput 23 = .ok (.iconst 0, 1) := by decide +kernel
theorem dL_appendInput_24 : decode cL_appendInput 24 = .ok (.ireturn, 1) := by decide +kernel
theorem dL_truncateInput_0 : decode cL_truncateInput 0 = .ok (.aload_n 2, 1) := by decide +kernel
theorem dL_truncateInput_1 : decode cL_truncateInput 1 = .ok (.iconst 0, 1) := by decide +kernel
theorem dL_truncateInput_2 : decode cL_truncateInput 2 = .ok (.aload_n 0, 1) := by decide +kernel
theorem dL_truncateInput_3 : decode cL_truncateInput 3 = .ok (.iload_n 1, 1) := by decide +kernel
theorem dL_truncateInput_4 : decode cL_truncateInput 4 = .ok (.invokevirtual 15, 3) := by decide +kernel
theorem dL_truncateInput_7 : decode cL_truncateInput 7 = .ok (.i2l, 1) := by decide +kernel
theorem dL_truncateInput_8 : decode cL_truncateInput 8 = .ok (.lastore, 1) := by decide +kernel
theorem dL_truncateInput_9 : decode cL_truncateInput 9 = .ok (.goto 6, 3) := by decide +kernel
theorem dL_truncateInput_12 : decode cL_truncateInput 12 = .ok (.astore_n 3, 1) := by decide +kernel
theorem dL_truncateInput_13 : decode cL_truncateInput 13 = .ok (.iconst 1, 1) := by decide +kernel
theorem dL_truncateInput_14 : decode cL_truncateInput 14 = .ok (.ireturn, 1) := by decide +kernel
theorem dL_truncateInput_15 : decode cL_truncateInput 15 = .ok (.iconst 0, 1) := by decide +kernel
theorem dL_truncateInput_16 : decode cL_truncateInput 16 = .ok (.ireturn, 1) := by decide +kernel
theorem dL_load_0 : decode cL_load 0 = .ok (.aload_n 1, 1) := by decide +kernel
theorem dL_load_1 : decode cL_load 1 = .ok (.iconst 0, 1) := by decide +kernel
theorem dL_load_2 : decode cL_load 2 = .ok (.aload_n 0, 1) := by decide +kernel
theorem dL_load_3 : decode cL_load 3 = .ok (.invokevirtual 21, 3) := by decide +kernel
theorem dL_load_6 : decode cL_load 6 = .ok (.i2l, 1) := by decide +kernel
theorem dL_load_7 : decode cL_load 7 = .ok (.lastore, 1) := by decide +kernel
theorem dL_load_8 : decode cL_load 8 = .ok (.goto 6, 3) := by decide +kernel
theorem dL_load_11 : decode cL_load 11 = .ok (.astore_n 2, 1) := by decide +kernel
theorem dL_load_12 : decode cL_load 12 = .ok (.iconst 1, 1) := by decide +kernel
theorem dL_load_13 : decode cL_load 13 = .ok (.ireturn, 1) := by decide +kernel
theorem dL_load_14 : decode cL_load 14 = .ok (.iconst 0, 1) := by decide +kernel
theorem dL_load_15 : decode cL_load 15 = .ok (.ireturn, 1) := by decide +kernel
theorem dL_readerNameByte_0 : decode cL_readerNameByte 0 = .ok (.aload_n 3, 1) := by decide +kernel
theorem dL_readerNameByte_1 : decode cL_readerNameByte 1 = .ok (.iconst 0, 1) := by decide +kernel
theorem dL_readerNameByte_2 : decode cL_readerNameByte 2 = .ok (.aload_n 0, 1) := by decide +kernel
theorem dL_readerNameByte_3 : decode cL_readerNameByte 3 = .ok (.iload_n 1, 1) := by decide +kernel
theorem dL_readerNameByte_4 : decode cL_readerNameByte 4 = .ok (.iload_n 2, 1) := by decide +kernel
theorem dL_readerNameByte_5 : decode cL_readerNameByte 5 = .ok (.invokevirtual 25, 3) := by decide +kernel
theorem dL_readerNameByte_8 : decode cL_readerNameByte 8 = .ok (.i2l, 1) := by decide +kernel
theorem dL_readerNameByte_9 : decode cL_readerNameByte 9 = .ok (.lastore, 1) := by decide +kernel
theorem dL_readerNameByte_10 : decode cL_readerNameByte 10 = .ok (.goto 11, 3) := by decide +kernel
theorem dL_readerNameByte_13 : decode cL_readerNameByte 13 = .ok (.astore 4, 2) := by decide +kernel
theorem dL_readerNameByte_15 : decode cL_readerNameByte 15 = .ok (.iconst 1, 1) := by decide +kernel
theorem dL_readerNameByte_16 : decode cL_readerNameByte 16 = .ok (.ireturn, 1) := by decide +kernel
theorem dL_readerNameByte_17 : decode cL_readerNameByte 17 = .ok (.astore 4, 2) := by decide +kernel
theorem dL_readerNameByte_19 : decode cL_readerNameByte 19 = .ok (.iconst 2, 1) := by decide +kernel
theorem dL_readerNameByte_20 : decode cL_readerNameByte 20 = .ok (.ireturn, 1) := by decide +kernel
theorem dL_readerNameByte_21 : decode cL_readerNameByte 21 = .ok (.iconst 0, 1) := by decide +kernel
theorem dL_readerNameByte_22 : decode cL_readerNameByte 22 = .ok (.ireturn, 1) := by decide +kernel
theorem dL_escapeMethod_0 : decode cL_escapeMethod 0 = .ok (.aload_n 2, 1) := by decide +kernel
theorem dL_escapeMethod_1 : decode cL_escapeMethod 1 = .ok (.iconst 0, 1) := by decide +kernel
theorem dL_escapeMethod_2 : decode cL_escapeMethod 2 = .ok (.aload_n 0, 1) := by decide +kernel
theorem dL_escapeMethod_3 : decode cL_escapeMethod 3 = .ok (.iload_n 1, 1) := by decide +kernel
theorem dL_escapeMethod_4 : decode cL_escapeMethod 4 = .ok (.invokevirtual 33, 3) := by decide +kernel
theorem dL_escapeMethod_7 : decode cL_escapeMethod 7 = .ok (.i2l, 1) := by decide +kernel
theorem dL_escapeMethod_8 : decode cL_escapeMethod 8 = .ok (.lastore, 1) := by decide +kernel
theorem dL_escapeMethod_9 : decode cL_escapeMethod 9 = .ok (.goto 6, 3) := by decide +kernel
theorem dL_escapeMethod_12 : decode cL_escapeMethod 12 = .ok (.astore_n 3, 1) := by decide +kernel
theorem dL_escapeMethod_13 : decode cL_escapeMethod 13 = .ok (.iconst 1, 1) := by decide +kernel
theorem dL_escapeMethod_14 : decode cL_escapeMethod 14 = .ok (.ireturn, 1) := by decide +kernel
theorem dL_escapeMethod_15 : decode cL_escapeMethod 15 = .ok (.iconst 0, 1) := by decide +kernel
theorem dL_escapeMethod_16 : decode cL_escapeMethod 16 = .ok (.ireturn, 1) := by decide +kernel
theorem dL_documentLength_0 : decode cL_documentLength 0 = .ok (.aload_n 2, 1) := by decide +kernel
theorem dL_documentLength_1 : decode cL_documentLength 1 = .ok (.iconst 0, 1) := by decide +kernel
theorem dL_documentLength_2 : decode cL_documentLength 2 = .ok (.aload_n 0, 1) := by decide +kernel
theorem dL_documentLength_3 : decode cL_documentLength 3 = .ok (.iload_n 1, 1) := by decide +kernel
theorem dL_documentLength_4 : decode cL_documentLength 4 = .ok (.invokevirtual 36, 3) := by decide +kernel
theorem dL_documentLength_7 : decode cL_documentLength 7 = .ok (.i2l, 1) := by decide +kernel
theorem dL_documentLength_8 : decode cL_documentLength 8 = .ok (.lastore, 1) := by decide +kernel
theorem dL_documentLength_9 : decode cL_documentLength 9 = .ok (.goto 6, 3) := by decide +kernel
theorem dL_documentLength_12 : decode cL_documentLength 12 = .ok (.astore_n 3, 1) := by decide +kernel
theorem dL_documentLength_13 : decode cL_documentLength 13 = .ok (.iconst 1, 1) := by decide +kernel
theorem dL_documentLength_14 : decode cL_documentLength 14 = .ok (.ireturn, 1) := by decide +kernel
theorem dL_documentLength_15 : decode cL_documentLength 15 = .ok (.iconst 0, 1) := by decide +kernel
theorem dL_documentLength_16 : decode cL_documentLength 16 = .ok (.ireturn, 1) := by decide +kernel
theorem dL_documentSymbol_0 : decode cL_documentSymbol 0 = .ok (.aload_n 3, 1) := by decide +kernel
theorem dL_documentSymbol_1 : decode cL_documentSymbol 1 = .ok (.iconst 0, 1) := by decide +kernel
theorem dL_documentSymbol_2 : decode cL_documentSymbol 2 = .ok (.aload_n 0, 1) := by decide +kernel
theorem dL_documentSymbol_3 : decode cL_documentSymbol 3 = .ok (.iload_n 1, 1) := by decide +kernel
theorem dL_documentSymbol_4 : decode cL_documentSymbol 4 = .ok (.iload_n 2, 1) := by decide +kernel
theorem dL_documentSymbol_5 : decode cL_documentSymbol 5 = .ok (.invokevirtual 39, 3) := by decide +kernel
theorem dL_documentSymbol_8 : decode cL_documentSymbol 8 = .ok (.i2l, 1) := by decide +kernel
theorem dL_documentSymbol_9 : decode cL_documentSymbol 9 = .ok (.lastore, 1) := by decide +kernel
theorem dL_documentSymbol_10 : decode cL_documentSymbol 10 = .ok (.goto 11, 3) := by decide +kernel
theorem dL_documentSymbol_13 : decode cL_documentSymbol 13 = .ok (.astore 4, 2) := by decide +kernel
theorem dL_documentSymbol_15 : decode cL_documentSymbol 15 = .ok (.iconst 1, 1) := by decide +kernel
theorem dL_documentSymbol_16 : decode cL_documentSymbol 16 = .ok (.ireturn, 1) := by decide +kernel
theorem dL_documentSymbol_17 : decode cL_documentSymbol 17 = .ok (.astore 4, 2) := by decide +kernel
theorem dL_documentSymbol_19 : decode cL_documentSymbol 19 = .ok (.iconst 2, 1) := by decide +kernel
theorem dL_documentSymbol_20 : decode cL_documentSymbol 20 = .ok (.ireturn, 1) := by decide +kernel
theorem dL_documentSymbol_21 : decode cL_documentSymbol 21 = .ok (.iconst 0, 1) := by decide +kernel
theorem dL_documentSymbol_22 : decode cL_documentSymbol 22 = .ok (.ireturn, 1) := by decide +kernel
theorem dL_documentYear_0 : decode cL_documentYear 0 = .ok (.aload_n 2, 1) := by decide +kernel
theorem dL_documentYear_1 : decode cL_documentYear 1 = .ok (.iconst 0, 1) := by decide +kernel
theorem dL_documentYear_2 : decode cL_documentYear 2 = .ok (.aload_n 0, 1) := by decide +kernel
theorem dL_documentYear_3 : decode cL_documentYear 3 = .ok (.iload_n 1, 1) := by decide +kernel
theorem dL_documentYear_4 : decode cL_documentYear 4 = .ok (.invokevirtual 42, 3) := by decide +kernel
theorem dL_documentYear_7 : decode cL_documentYear 7 = .ok (.i2l, 1) := by decide +kernel
theorem dL_documentYear_8 : decode cL_documentYear 8 = .ok (.lastore, 1) := by decide +kernel
theorem dL_documentYear_9 : decode cL_documentYear 9 = .ok (.goto 6, 3) := by decide +kernel
theorem dL_documentYear_12 : decode cL_documentYear 12 = .ok (.astore_n 3, 1) := by decide +kernel
theorem dL_documentYear_13 : decode cL_documentYear 13 = .ok (.iconst 1, 1) := by decide +kernel
theorem dL_documentYear_14 : decode cL_documentYear 14 = .ok (.ireturn, 1) := by decide +kernel
theorem dL_documentYear_15 : decode cL_documentYear 15 = .ok (.iconst 0, 1) := by decide +kernel
theorem dL_documentYear_16 : decode cL_documentYear 16 = .ok (.ireturn, 1) := by decide +kernel
theorem dL_countOrder0_0 : decode cL_countOrder0 0 = .ok (.aload_n 3, 1) := by decide +kernel
theorem dL_countOrder0_1 : decode cL_countOrder0 1 = .ok (.iconst 0, 1) := by decide +kernel
theorem dL_countOrder0_2 : decode cL_countOrder0 2 = .ok (.aload_n 0, 1) := by decide +kernel
theorem dL_countOrder0_3 : decode cL_countOrder0 3 = .ok (.iload_n 1, 1) := by decide +kernel
theorem dL_countOrder0_4 : decode cL_countOrder0 4 = .ok (.iload_n 2, 1) := by decide +kernel
theorem dL_countOrder0_5 : decode cL_countOrder0 5 = .ok (.invokevirtual 45, 3) := by decide +kernel
theorem dL_countOrder0_8 : decode cL_countOrder0 8 = .ok (.i2l, 1) := by decide +kernel
theorem dL_countOrder0_9 : decode cL_countOrder0 9 = .ok (.lastore, 1) := by decide +kernel
theorem dL_countOrder0_10 : decode cL_countOrder0 10 = .ok (.goto 11, 3) := by decide +kernel
theorem dL_countOrder0_13 : decode cL_countOrder0 13 = .ok (.astore 4, 2) := by decide +kernel
theorem dL_countOrder0_15 : decode cL_countOrder0 15 = .ok (.iconst 1, 1) := by decide +kernel
theorem dL_countOrder0_16 : decode cL_countOrder0 16 = .ok (.ireturn, 1) := by decide +kernel
theorem dL_countOrder0_17 : decode cL_countOrder0 17 = .ok (.astore 4, 2) := by decide +kernel
theorem dL_countOrder0_19 : decode cL_countOrder0 19 = .ok (.iconst 2, 1) := by decide +kernel
theorem dL_countOrder0_20 : decode cL_countOrder0 20 = .ok (.ireturn, 1) := by decide +kernel
theorem dL_countOrder0_21 : decode cL_countOrder0 21 = .ok (.iconst 0, 1) := by decide +kernel
theorem dL_countOrder0_22 : decode cL_countOrder0 22 = .ok (.ireturn, 1) := by decide +kernel
theorem dL_countOrder1_0 : decode cL_countOrder1 0 = .ok (.aload 4, 2) := by decide +kernel
theorem dL_countOrder1_2 : decode cL_countOrder1 2 = .ok (.iconst 0, 1) := by decide +kernel
theorem dL_countOrder1_3 : decode cL_countOrder1 3 = .ok (.aload_n 0, 1) := by decide +kernel
theorem dL_countOrder1_4 : decode cL_countOrder1 4 = .ok (.iload_n 1, 1) := by decide +kernel
theorem dL_countOrder1_5 : decode cL_countOrder1 5 = .ok (.iload_n 2, 1) := by decide +kernel
theorem dL_countOrder1_6 : decode cL_countOrder1 6 = .ok (.iload_n 3, 1) := by decide +kernel
theorem dL_countOrder1_7 : decode cL_countOrder1 7 = .ok (.invokevirtual 48, 3) := by decide +kernel
theorem dL_countOrder1_10 : decode cL_countOrder1 10 = .ok (.i2l, 1) := by decide +kernel
theorem dL_countOrder1_11 : decode cL_countOrder1 11 = .ok (.lastore, 1) := by decide +kernel
theorem dL_countOrder1_12 : decode cL_countOrder1 12 = .ok (.goto 11, 3) := by decide +kernel
theorem dL_countOrder1_15 : decode cL_countOrder1 15 = .ok (.astore 5, 2) := by decide +kernel
theorem dL_countOrder1_17 : decode cL_countOrder1 17 = .ok (.iconst 1, 1) := by decide +kernel
theorem dL_countOrder1_18 : decode cL_countOrder1 18 = .ok (.ireturn, 1) := by decide +kernel
theorem dL_countOrder1_19 : decode cL_countOrder1 19 = .ok (.astore 5, 2) := by decide +kernel
theorem dL_countOrder1_21 : decode cL_countOrder1 21 = .ok (.iconst 2, 1) := by decide +kernel
theorem dL_countOrder1_22 : decode cL_countOrder1 22 = .ok (.ireturn, 1) := by decide +kernel
theorem dL_countOrder1_23 : decode cL_countOrder1 23 = .ok (.iconst 0, 1) := by decide +kernel
theorem dL_countOrder1_24 : decode cL_countOrder1 24 = .ok (.ireturn, 1) := by decide +kernel
theorem dL_countOrder2_0 : decode cL_countOrder2 0 = .ok (.aload 5, 2) := by decide +kernel
theorem dL_countOrder2_2 : decode cL_countOrder2 2 = .ok (.iconst 0, 1) := by decide +kernel
theorem dL_countOrder2_3 : decode cL_countOrder2 3 = .ok (.aload_n 0, 1) := by decide +kernel
theorem dL_countOrder2_4 : decode cL_countOrder2 4 = .ok (.iload_n 1, 1) := by decide +kernel
theorem dL_countOrder2_5 : decode cL_countOrder2 5 = .ok (.iload_n 2, 1) := by decide +kernel
theorem dL_countOrder2_6 : decode cL_countOrder2 6 = .ok (.iload_n 3, 1) := by decide +kernel
theorem dL_countOrder2_7 : decode cL_countOrder2 7 = .ok (.iload 4, 2) := by decide +kernel
theorem dL_countOrder2_9 : decode cL_countOrder2 9 = .ok (.invokevirtual 52, 3) := by decide +kernel
theorem dL_countOrder2_12 : decode cL_countOrder2 12 = .ok (.i2l, 1) := by decide +kernel
theorem dL_countOrder2_13 : decode cL_countOrder2 13 = .ok (.lastore, 1) := by decide +kernel
theorem dL_countOrder2_14 : decode cL_countOrder2 14 = .ok (.goto 11, 3) := by decide +kernel
theorem dL_countOrder2_17 : decode cL_countOrder2 17 = .ok (.astore 6, 2) := by decide +kernel
theorem dL_countOrder2_19 : decode cL_countOrder2 19 = .ok (.iconst 1, 1) := by decide +kernel
theorem dL_countOrder2_20 : decode cL_countOrder2 20 = .ok (.ireturn, 1) := by decide +kernel
theorem dL_countOrder2_21 : decode cL_countOrder2 21 = .ok (.astore 6, 2) := by decide +kernel
theorem dL_countOrder2_23 : decode cL_countOrder2 23 = .ok (.iconst 2, 1) := by decide +kernel
theorem dL_countOrder2_24 : decode cL_countOrder2 24 = .ok (.ireturn, 1) := by decide +kernel
theorem dL_countOrder2_25 : decode cL_countOrder2 25 = .ok (.iconst 0, 1) := by decide +kernel
theorem dL_countOrder2_26 : decode cL_countOrder2 26 = .ok (.ireturn, 1) := by decide +kernel
theorem dL_contextTotal_0 : decode cL_contextTotal 0 = .ok (.aload 4, 2) := by decide +kernel
theorem dL_contextTotal_2 : decode cL_contextTotal 2 = .ok (.iconst 0, 1) := by decide +kernel
theorem dL_contextTotal_3 : decode cL_contextTotal 3 = .ok (.aload_n 0, 1) := by decide +kernel
theorem dL_contextTotal_4 : decode cL_contextTotal 4 = .ok (.iload_n 1, 1) := by decide +kernel
theorem dL_contextTotal_5 : decode cL_contextTotal 5 = .ok (.iload_n 2, 1) := by decide +kernel
theorem dL_contextTotal_6 : decode cL_contextTotal 6 = .ok (.iload_n 3, 1) := by decide +kernel
theorem dL_contextTotal_7 : decode cL_contextTotal 7 = .ok (.invokevirtual 56, 3) := by decide +kernel
theorem dL_contextTotal_10 : decode cL_contextTotal 10 = .ok (.i2l, 1) := by decide +kernel
theorem dL_contextTotal_11 : decode cL_contextTotal 11 = .ok (.lastore, 1) := by decide +kernel
theorem dL_contextTotal_12 : decode cL_contextTotal 12 = .ok (.goto 11, 3) := by decide +kernel
theorem dL_contextTotal_15 : decode cL_contextTotal 15 = .ok (.astore 5, 2) := by decide +kernel
theorem dL_contextTotal_17 : decode cL_contextTotal 17 = .ok (.iconst 1, 1) := by decide +kernel
theorem dL_contextTotal_18 : decode cL_contextTotal 18 = .ok (.ireturn, 1) := by decide +kernel
theorem dL_contextTotal_19 : decode cL_contextTotal 19 = .ok (.astore 5, 2) := by decide +kernel
theorem dL_contextTotal_21 : decode cL_contextTotal 21 = .ok (.iconst 2, 1) := by decide +kernel
theorem dL_contextTotal_22 : decode cL_contextTotal 22 = .ok (.ireturn, 1) := by decide +kernel
theorem dL_contextTotal_23 : decode cL_contextTotal 23 = .ok (.iconst 0, 1) := by decide +kernel
theorem dL_contextTotal_24 : decode cL_contextTotal 24 = .ok (.ireturn, 1) := by decide +kernel
theorem dL_contextSymbols_0 : decode cL_contextSymbols 0 = .ok (.aload 4, 2) := by decide +kernel
theorem dL_contextSymbols_2 : decode cL_contextSymbols 2 = .ok (.iconst 0, 1) := by decide +kernel
theorem dL_contextSymbols_3 : decode cL_contextSymbols 3 = .ok (.aload_n 0, 1) := by decide +kernel
theorem dL_contextSymbols_4 : decode cL_contextSymbols 4 = .ok (.iload_n 1, 1) := by decide +kernel
theorem dL_contextSymbols_5 : decode cL_contextSymbols 5 = .ok (.iload_n 2, 1) := by decide +kernel
theorem dL_contextSymbols_6 : decode cL_contextSymbols 6 = .ok (.iload_n 3, 1) := by decide +kernel
theorem dL_contextSymbols_7 : decode cL_contextSymbols 7 = .ok (.invokevirtual 59, 3) := by decide +kernel
theorem dL_contextSymbols_10 : decode cL_contextSymbols 10 = .ok (.i2l, 1) := by decide +kernel
theorem dL_contextSymbols_11 : decode cL_contextSymbols 11 = .ok (.lastore, 1) := by decide +kernel
theorem dL_contextSymbols_12 : decode cL_contextSymbols 12 = .ok (.goto 11, 3) := by decide +kernel
theorem dL_contextSymbols_15 : decode cL_contextSymbols 15 = .ok (.astore 5, 2) := by decide +kernel
theorem dL_contextSymbols_17 : decode cL_contextSymbols 17 = .ok (.iconst 1, 1) := by decide +kernel
theorem dL_contextSymbols_18 : decode cL_contextSymbols 18 = .ok (.ireturn, 1) := by decide +kernel
theorem dL_contextSymbols_19 : decode cL_contextSymbols 19 = .ok (.astore 5, 2) := by decide +kernel
theorem dL_contextSymbols_21 : decode cL_contextSymbols 21 = .ok (.iconst 2, 1) := by decide +kernel
theorem dL_contextSymbols_22 : decode cL_contextSymbols 22 = .ok (.ireturn, 1) := by decide +kernel
theorem dL_contextSymbols_23 : decode cL_contextSymbols 23 = .ok (.iconst 0, 1) := by decide +kernel
theorem dL_contextSymbols_24 : decode cL_contextSymbols 24 = .ok (.ireturn, 1) := by decide +kernel
theorem dL_order2Contexts_0 : decode cL_order2Contexts 0 = .ok (.aload_n 2, 1) := by decide +kernel
theorem dL_order2Contexts_1 : decode cL_order2Contexts 1 = .ok (.iconst 0, 1) := by decide +kernel
theorem dL_order2Contexts_2 : decode cL_order2Contexts 2 = .ok (.aload_n 0, 1) := by decide +kernel
theorem dL_order2Contexts_3 : decode cL_order2Contexts 3 = .ok (.iload_n 1, 1) := by decide +kernel
theorem dL_order2Contexts_4 : decode cL_order2Contexts 4 = .ok (.invokevirtual 62, 3) := by decide +kernel
theorem dL_order2Contexts_7 : decode cL_order2Contexts 7 = .ok (.i2l, 1) := by decide +kernel
theorem dL_order2Contexts_8 : decode cL_order2Contexts 8 = .ok (.lastore, 1) := by decide +kernel
theorem dL_order2Contexts_9 : decode cL_order2Contexts 9 = .ok (.goto 6, 3) := by decide +kernel
theorem dL_order2Contexts_12 : decode cL_order2Contexts 12 = .ok (.astore_n 3, 1) := by decide +kernel
theorem dL_order2Contexts_13 : decode cL_order2Contexts 13 = .ok (.iconst 1, 1) := by decide +kernel
theorem dL_order2Contexts_14 : decode cL_order2Contexts 14 = .ok (.ireturn, 1) := by decide +kernel
theorem dL_order2Contexts_15 : decode cL_order2Contexts 15 = .ok (.iconst 0, 1) := by decide +kernel
theorem dL_order2Contexts_16 : decode cL_order2Contexts 16 = .ok (.ireturn, 1) := by decide +kernel
theorem dL_positiveCounts_0 : decode cL_positiveCounts 0 = .ok (.aload_n 2, 1) := by decide +kernel
theorem dL_positiveCounts_1 : decode cL_positiveCounts 1 = .ok (.iconst 0, 1) := by decide +kernel
theorem dL_positiveCounts_2 : decode cL_positiveCounts 2 = .ok (.aload_n 0, 1) := by decide +kernel
theorem dL_positiveCounts_3 : decode cL_positiveCounts 3 = .ok (.iload_n 1, 1) := by decide +kernel
theorem dL_positiveCounts_4 : decode cL_positiveCounts 4 = .ok (.invokevirtual 65, 3) := by decide +kernel
theorem dL_positiveCounts_7 : decode cL_positiveCounts 7 = .ok (.i2l, 1) := by decide +kernel
theorem dL_positiveCounts_8 : decode cL_positiveCounts 8 = .ok (.lastore, 1) := by decide +kernel
theorem dL_positiveCounts_9 : decode cL_positiveCounts 9 = .ok (.goto 6, 3) := by decide +kernel
theorem dL_positiveCounts_12 : decode cL_positiveCounts 12 = .ok (.astore_n 3, 1) := by decide +kernel
theorem dL_positiveCounts_13 : decode cL_positiveCounts 13 = .ok (.iconst 1, 1) := by decide +kernel
theorem dL_positiveCounts_14 : decode cL_positiveCounts 14 = .ok (.ireturn, 1) := by decide +kernel
theorem dL_positiveCounts_15 : decode cL_positiveCounts 15 = .ok (.iconst 0, 1) := by decide +kernel
theorem dL_positiveCounts_16 : decode cL_positiveCounts 16 = .ok (.ireturn, 1) := by decide +kernel
theorem dL_timesTrained_0 : decode cL_timesTrained 0 = .ok (.aload_n 3, 1) := by decide +kernel
theorem dL_timesTrained_1 : decode cL_timesTrained 1 = .ok (.iconst 0, 1) := by decide +kernel
theorem dL_timesTrained_2 : decode cL_timesTrained 2 = .ok (.aload_n 0, 1) := by decide +kernel
theorem dL_timesTrained_3 : decode cL_timesTrained 3 = .ok (.iload_n 1, 1) := by decide +kernel
theorem dL_timesTrained_4 : decode cL_timesTrained 4 = .ok (.iload_n 2, 1) := by decide +kernel
theorem dL_timesTrained_5 : decode cL_timesTrained 5 = .ok (.invokevirtual 68, 3) := by decide +kernel
theorem dL_timesTrained_8 : decode cL_timesTrained 8 = .ok (.i2l, 1) := by decide +kernel
theorem dL_timesTrained_9 : decode cL_timesTrained 9 = .ok (.lastore, 1) := by decide +kernel
theorem dL_timesTrained_10 : decode cL_timesTrained 10 = .ok (.goto 7, 3) := by decide +kernel
theorem dL_timesTrained_13 : decode cL_timesTrained 13 = .ok (.astore 4, 2) := by decide +kernel
theorem dL_timesTrained_15 : decode cL_timesTrained 15 = .ok (.iconst 1, 1) := by decide +kernel
theorem dL_timesTrained_16 : decode cL_timesTrained 16 = .ok (.ireturn, 1) := by decide +kernel
theorem dL_timesTrained_17 : decode cL_timesTrained 17 = .ok (.iconst 0, 1) := by decide +kernel
theorem dL_timesTrained_18 : decode cL_timesTrained 18 = .ok (.ireturn, 1) := by decide +kernel
theorem dL_trainedSymbols_0 : decode cL_trainedSymbols 0 = .ok (.aload_n 2, 1) := by decide +kernel
theorem dL_trainedSymbols_1 : decode cL_trainedSymbols 1 = .ok (.iconst 0, 1) := by decide +kernel
theorem dL_trainedSymbols_2 : decode cL_trainedSymbols 2 = .ok (.aload_n 0, 1) := by decide +kernel
theorem dL_trainedSymbols_3 : decode cL_trainedSymbols 3 = .ok (.iload_n 1, 1) := by decide +kernel
theorem dL_trainedSymbols_4 : decode cL_trainedSymbols 4 = .ok (.invokevirtual 71, 3) := by decide +kernel
theorem dL_trainedSymbols_7 : decode cL_trainedSymbols 7 = .ok (.i2l, 1) := by decide +kernel
theorem dL_trainedSymbols_8 : decode cL_trainedSymbols 8 = .ok (.lastore, 1) := by decide +kernel
theorem dL_trainedSymbols_9 : decode cL_trainedSymbols 9 = .ok (.goto 6, 3) := by decide +kernel
theorem dL_trainedSymbols_12 : decode cL_trainedSymbols 12 = .ok (.astore_n 3, 1) := by decide +kernel
theorem dL_trainedSymbols_13 : decode cL_trainedSymbols 13 = .ok (.iconst 1, 1) := by decide +kernel
theorem dL_trainedSymbols_14 : decode cL_trainedSymbols 14 = .ok (.ireturn, 1) := by decide +kernel
theorem dL_trainedSymbols_15 : decode cL_trainedSymbols 15 = .ok (.iconst 0, 1) := by decide +kernel
theorem dL_trainedSymbols_16 : decode cL_trainedSymbols 16 = .ok (.ireturn, 1) := by decide +kernel
theorem dL_trainingGap_0 : decode cL_trainingGap 0 = .ok (.aload_n 2, 1) := by decide +kernel
theorem dL_trainingGap_1 : decode cL_trainingGap 1 = .ok (.iconst 0, 1) := by decide +kernel
theorem dL_trainingGap_2 : decode cL_trainingGap 2 = .ok (.aload_n 0, 1) := by decide +kernel
theorem dL_trainingGap_3 : decode cL_trainingGap 3 = .ok (.iload_n 1, 1) := by decide +kernel
theorem dL_trainingGap_4 : decode cL_trainingGap 4 = .ok (.invokevirtual 74, 3) := by decide +kernel
theorem dL_trainingGap_7 : decode cL_trainingGap 7 = .ok (.i2l, 1) := by decide +kernel
theorem dL_trainingGap_8 : decode cL_trainingGap 8 = .ok (.lastore, 1) := by decide +kernel
theorem dL_trainingGap_9 : decode cL_trainingGap 9 = .ok (.goto 6, 3) := by decide +kernel
theorem dL_trainingGap_12 : decode cL_trainingGap 12 = .ok (.astore_n 3, 1) := by decide +kernel
theorem dL_trainingGap_13 : decode cL_trainingGap 13 = .ok (.iconst 1, 1) := by decide +kernel
theorem dL_trainingGap_14 : decode cL_trainingGap 14 = .ok (.ireturn, 1) := by decide +kernel
theorem dL_trainingGap_15 : decode cL_trainingGap 15 = .ok (.iconst 0, 1) := by decide +kernel
theorem dL_trainingGap_16 : decode cL_trainingGap 16 = .ok (.ireturn, 1) := by decide +kernel
theorem dL_symbolAtRank_0 : decode cL_symbolAtRank 0 = .ok (.aload 5, 2) := by decide +kernel
theorem dL_symbolAtRank_2 : decode cL_symbolAtRank 2 = .ok (.iconst 0, 1) := by decide +kernel
theorem dL_symbolAtRank_3 : decode cL_symbolAtRank 3 = .ok (.aload_n 0, 1) := by decide +kernel
theorem dL_symbolAtRank_4 : decode cL_symbolAtRank 4 = .ok (.iload_n 1, 1) := by decide +kernel
theorem dL_symbolAtRank_5 : decode cL_symbolAtRank 5 = .ok (.iload_n 2, 1) := by decide +kernel
theorem dL_symbolAtRank_6 : decode cL_symbolAtRank 6 = .ok (.iload_n 3, 1) := by decide +kernel
theorem dL_symbolAtRank_7 : decode cL_symbolAtRank 7 = .ok (.iload 4, 2) := by decide +kernel
theorem dL_symbolAtRank_9 : decode cL_symbolAtRank 9 = .ok (.invokevirtual 77, 3) := by decide +kernel
theorem dL_symbolAtRank_12 : decode cL_symbolAtRank 12 = .ok (.i2l, 1) := by decide +kernel
theorem dL_symbolAtRank_13 : decode cL_symbolAtRank 13 = .ok (.lastore, 1) := by decide +kernel
theorem dL_symbolAtRank_14 : decode cL_symbolAtRank 14 = .ok (.goto 11, 3) := by decide +kernel
theorem dL_symbolAtRank_17 : decode cL_symbolAtRank 17 = .ok (.astore 6, 2) := by decide +kernel
theorem dL_symbolAtRank_19 : decode cL_symbolAtRank 19 = .ok (.iconst 1, 1) := by decide +kernel
theorem dL_symbolAtRank_20 : decode cL_symbolAtRank 20 = .ok (.ireturn, 1) := by decide +kernel
theorem dL_symbolAtRank_21 : decode cL_symbolAtRank 21 = .ok (.astore 6, 2) := by decide +kernel
theorem dL_symbolAtRank_23 : decode cL_symbolAtRank 23 = .ok (.iconst 2, 1) := by decide +kernel
theorem dL_symbolAtRank_24 : decode cL_symbolAtRank 24 = .ok (.ireturn, 1) := by decide +kernel
theorem dL_symbolAtRank_25 : decode cL_symbolAtRank 25 = .ok (.iconst 0, 1) := by decide +kernel
theorem dL_symbolAtRank_26 : decode cL_symbolAtRank 26 = .ok (.ireturn, 1) := by decide +kernel
theorem dL_rank_0 : decode cL_rank 0 = .ok (.aload 5, 2) := by decide +kernel
theorem dL_rank_2 : decode cL_rank 2 = .ok (.iconst 0, 1) := by decide +kernel
theorem dL_rank_3 : decode cL_rank 3 = .ok (.aload_n 0, 1) := by decide +kernel
theorem dL_rank_4 : decode cL_rank 4 = .ok (.iload_n 1, 1) := by decide +kernel
theorem dL_rank_5 : decode cL_rank 5 = .ok (.iload_n 2, 1) := by decide +kernel
theorem dL_rank_6 : decode cL_rank 6 = .ok (.iload_n 3, 1) := by decide +kernel
theorem dL_rank_7 : decode cL_rank 7 = .ok (.iload 4, 2) := by decide +kernel
theorem dL_rank_9 : decode cL_rank 9 = .ok (.invokevirtual 80, 3) := by decide +kernel
theorem dL_rank_12 : decode cL_rank 12 = .ok (.i2l, 1) := by decide +kernel
theorem dL_rank_13 : decode cL_rank 13 = .ok (.lastore, 1) := by decide +kernel
theorem dL_rank_14 : decode cL_rank 14 = .ok (.goto 11, 3) := by decide +kernel
theorem dL_rank_17 : decode cL_rank 17 = .ok (.astore 6, 2) := by decide +kernel
theorem dL_rank_19 : decode cL_rank 19 = .ok (.iconst 1, 1) := by decide +kernel
theorem dL_rank_20 : decode cL_rank 20 = .ok (.ireturn, 1) := by decide +kernel
theorem dL_rank_21 : decode cL_rank 21 = .ok (.astore 6, 2) := by decide +kernel
theorem dL_rank_23 : decode cL_rank 23 = .ok (.iconst 2, 1) := by decide +kernel
theorem dL_rank_24 : decode cL_rank 24 = .ok (.ireturn, 1) := by decide +kernel
theorem dL_rank_25 : decode cL_rank 25 = .ok (.iconst 0, 1) := by decide +kernel
theorem dL_rank_26 : decode cL_rank 26 = .ok (.ireturn, 1) := by decide +kernel
theorem dL_foundOrder_0 : decode cL_foundOrder 0 = .ok (.aload 5, 2) := by decide +kernel
theorem dL_foundOrder_2 : decode cL_foundOrder 2 = .ok (.iconst 0, 1) := by decide +kernel
theorem dL_foundOrder_3 : decode cL_foundOrder 3 = .ok (.aload_n 0, 1) := by decide +kernel
theorem dL_foundOrder_4 : decode cL_foundOrder 4 = .ok (.iload_n 1, 1) := by decide +kernel
theorem dL_foundOrder_5 : decode cL_foundOrder 5 = .ok (.iload_n 2, 1) := by decide +kernel
theorem dL_foundOrder_6 : decode cL_foundOrder 6 = .ok (.iload_n 3, 1) := by decide +kernel
theorem dL_foundOrder_7 : decode cL_foundOrder 7 = .ok (.iload 4, 2) := by decide +kernel
theorem dL_foundOrder_9 : decode cL_foundOrder 9 = .ok (.invokevirtual 83, 3) := by decide +kernel
theorem dL_foundOrder_12 : decode cL_foundOrder 12 = .ok (.i2l, 1) := by decide +kernel
theorem dL_foundOrder_13 : decode cL_foundOrder 13 = .ok (.lastore, 1) := by decide +kernel
theorem dL_foundOrder_14 : decode cL_foundOrder 14 = .ok (.goto 11, 3) := by decide +kernel
theorem dL_foundOrder_17 : decode cL_foundOrder 17 = .ok (.astore 6, 2) := by decide +kernel
theorem dL_foundOrder_19 : decode cL_foundOrder 19 = .ok (.iconst 1, 1) := by decide +kernel
theorem dL_foundOrder_20 : decode cL_foundOrder 20 = .ok (.ireturn, 1) := by decide +kernel
theorem dL_foundOrder_21 : decode cL_foundOrder 21 = .ok (.astore 6, 2) := by decide +kernel
theorem dL_foundOrder_23 : decode cL_foundOrder 23 = .ok (.iconst 2, 1) := by decide +kernel
theorem dL_foundOrder_24 : decode cL_foundOrder 24 = .ok (.ireturn, 1) := by decide +kernel
theorem dL_foundOrder_25 : decode cL_foundOrder 25 = .ok (.iconst 0, 1) := by decide +kernel
theorem dL_foundOrder_26 : decode cL_foundOrder 26 = .ok (.ireturn, 1) := by decide +kernel
theorem dL_escapes_0 : decode cL_escapes 0 = .ok (.aload 5, 2) := by decide +kernel
theorem dL_escapes_2 : decode cL_escapes 2 = .ok (.iconst 0, 1) := by decide +kernel
theorem dL_escapes_3 : decode cL_escapes 3 = .ok (.aload_n 0, 1) := by decide +kernel
theorem dL_escapes_4 : decode cL_escapes 4 = .ok (.iload_n 1, 1) := by decide +kernel
theorem dL_escapes_5 : decode cL_escapes 5 = .ok (.iload_n 2, 1) := by decide +kernel
theorem dL_escapes_6 : decode cL_escapes 6 = .ok (.iload_n 3, 1) := by decide +kernel
theorem dL_escapes_7 : decode cL_escapes 7 = .ok (.iload 4, 2) := by decide +kernel
theorem dL_escapes_9 : decode cL_escapes 9 = .ok (.invokevirtual 86, 3) := by decide +kernel
theorem dL_escapes_12 : decode cL_escapes 12 = .ok (.i2l, 1) := by decide +kernel
theorem dL_escapes_13 : decode cL_escapes 13 = .ok (.lastore, 1) := by decide +kernel
theorem dL_escapes_14 : decode cL_escapes 14 = .ok (.goto 11, 3) := by decide +kernel
theorem dL_escapes_17 : decode cL_escapes 17 = .ok (.astore 6, 2) := by decide +kernel
theorem dL_escapes_19 : decode cL_escapes 19 = .ok (.iconst 1, 1) := by decide +kernel
theorem dL_escapes_20 : decode cL_escapes 20 = .ok (.ireturn, 1) := by decide +kernel
theorem dL_escapes_21 : decode cL_escapes 21 = .ok (.astore 6, 2) := by decide +kernel
theorem dL_escapes_23 : decode cL_escapes 23 = .ok (.iconst 2, 1) := by decide +kernel
theorem dL_escapes_24 : decode cL_escapes 24 = .ok (.ireturn, 1) := by decide +kernel
theorem dL_escapes_25 : decode cL_escapes 25 = .ok (.iconst 0, 1) := by decide +kernel
theorem dL_escapes_26 : decode cL_escapes 26 = .ok (.ireturn, 1) := by decide +kernel
theorem dL_numerator_0 : decode cL_numerator 0 = .ok (.aload 5, 2) := by decide +kernel
theorem dL_numerator_2 : decode cL_numerator 2 = .ok (.iconst 0, 1) := by decide +kernel
theorem dL_numerator_3 : decode cL_numerator 3 = .ok (.aload_n 0, 1) := by decide +kernel
theorem dL_numerator_4 : decode cL_numerator 4 = .ok (.iload_n 1, 1) := by decide +kernel
theorem dL_numerator_5 : decode cL_numerator 5 = .ok (.iload_n 2, 1) := by decide +kernel
theorem dL_numerator_6 : decode cL_numerator 6 = .ok (.iload_n 3, 1) := by decide +kernel
theorem dL_numerator_7 : decode cL_numerator 7 = .ok (.iload 4, 2) := by decide +kernel
theorem dL_numerator_9 : decode cL_numerator 9 = .ok (.invokevirtual 89, 3) := by decide +kernel
theorem dL_numerator_12 : decode cL_numerator 12 = .ok (.lastore, 1) := by decide +kernel
theorem dL_numerator_13 : decode cL_numerator 13 = .ok (.goto 11, 3) := by decide +kernel
theorem dL_numerator_16 : decode cL_numerator 16 = .ok (.astore 6, 2) := by decide +kernel
theorem dL_numerator_18 : decode cL_numerator 18 = .ok (.iconst 1, 1) := by decide +kernel
theorem dL_numerator_19 : decode cL_numerator 19 = .ok (.ireturn, 1) := by decide +kernel
theorem dL_numerator_20 : decode cL_numerator 20 = .ok (.astore 6, 2) := by decide +kernel
theorem dL_numerator_22 : decode cL_numerator 22 = .ok (.iconst 2, 1) := by decide +kernel
theorem dL_numerator_23 : decode cL_numerator 23 = .ok (.ireturn, 1) := by decide +kernel
theorem dL_numerator_24 : decode cL_numerator 24 = .ok (.iconst 0, 1) := by decide +kernel
theorem dL_numerator_25 : decode cL_numerator 25 = .ok (.ireturn, 1) := by decide +kernel
theorem dL_denominator_0 : decode cL_denominator 0 = .ok (.aload 5, 2) := by decide +kernel
theorem dL_denominator_2 : decode cL_denominator 2 = .ok (.iconst 0, 1) := by decide +kernel
theorem dL_denominator_3 : decode cL_denominator 3 = .ok (.aload_n 0, 1) := by decide +kernel
theorem dL_denominator_4 : decode cL_denominator 4 = .ok (.iload_n 1, 1) := by decide +kernel
theorem dL_denominator_5 : decode cL_denominator 5 = .ok (.iload_n 2, 1) := by decide +kernel
theorem dL_denominator_6 : decode cL_denominator 6 = .ok (.iload_n 3, 1) := by decide +kernel
theorem dL_denominator_7 : decode cL_denominator 7 = .ok (.iload 4, 2) := by decide +kernel
theorem dL_denominator_9 : decode cL_denominator 9 = .ok (.invokevirtual 93, 3) := by decide +kernel
theorem dL_denominator_12 : decode cL_denominator 12 = .ok (.lastore, 1) := by decide +kernel
theorem dL_denominator_13 : decode cL_denominator 13 = .ok (.goto 11, 3) := by decide +kernel
theorem dL_denominator_16 : decode cL_denominator 16 = .ok (.astore 6, 2) := by decide +kernel
theorem dL_denominator_18 : decode cL_denominator 18 = .ok (.iconst 1, 1) := by decide +kernel
theorem dL_denominator_19 : decode cL_denominator 19 = .ok (.ireturn, 1) := by decide +kernel
theorem dL_denominator_20 : decode cL_denominator 20 = .ok (.astore 6, 2) := by decide +kernel
theorem dL_denominator_22 : decode cL_denominator 22 = .ok (.iconst 2, 1) := by decide +kernel
theorem dL_denominator_23 : decode cL_denominator 23 = .ok (.ireturn, 1) := by decide +kernel
theorem dL_denominator_24 : decode cL_denominator 24 = .ok (.iconst 0, 1) := by decide +kernel
theorem dL_denominator_25 : decode cL_denominator 25 = .ok (.ireturn, 1) := by decide +kernel
theorem dL_probability_0 : decode cL_probability 0 = .ok (.aload 5, 2) := by decide +kernel
theorem dL_probability_2 : decode cL_probability 2 = .ok (.iconst 0, 1) := by decide +kernel
theorem dL_probability_3 : decode cL_probability 3 = .ok (.aload_n 0, 1) := by decide +kernel
theorem dL_probability_4 : decode cL_probability 4 = .ok (.iload_n 1, 1) := by decide +kernel
theorem dL_probability_5 : decode cL_probability 5 = .ok (.iload_n 2, 1) := by decide +kernel
theorem dL_probability_6 : decode cL_probability 6 = .ok (.iload_n 3, 1) := by decide +kernel
theorem dL_probability_7 : decode cL_probability 7 = .ok (.iload 4, 2) := by decide +kernel
theorem dL_probability_9 : decode cL_probability 9 = .ok (.invokevirtual 96, 3) := by decide +kernel
theorem dL_probability_12 : decode cL_probability 12 = .ok (.dastore, 1) := by decide +kernel
theorem dL_probability_13 : decode cL_probability 13 = .ok (.goto 11, 3) := by decide +kernel
theorem dL_probability_16 : decode cL_probability 16 = .ok (.astore 6, 2) := by decide +kernel
theorem dL_probability_18 : decode cL_probability 18 = .ok (.iconst 1, 1) := by decide +kernel
theorem dL_probability_19 : decode cL_probability 19 = .ok (.ireturn, 1) := by decide +kernel
theorem dL_probability_20 : decode cL_probability 20 = .ok (.astore 6, 2) := by decide +kernel
theorem dL_probability_22 : decode cL_probability 22 = .ok (.iconst 2, 1) := by decide +kernel
theorem dL_probability_23 : decode cL_probability 23 = .ok (.ireturn, 1) := by decide +kernel
theorem dL_probability_24 : decode cL_probability 24 = .ok (.iconst 0, 1) := by decide +kernel
theorem dL_probability_25 : decode cL_probability 25 = .ok (.ireturn, 1) := by decide +kernel
theorem dL_codeLength_0 : decode cL_codeLength 0 = .ok (.aload 5, 2) := by decide +kernel
theorem dL_codeLength_2 : decode cL_codeLength 2 = .ok (.iconst 0, 1) := by decide +kernel
theorem dL_codeLength_3 : decode cL_codeLength 3 = .ok (.aload_n 0, 1) := by decide +kernel
theorem dL_codeLength_4 : decode cL_codeLength 4 = .ok (.iload_n 1, 1) := by decide +kernel
theorem dL_codeLength_5 : decode cL_codeLength 5 = .ok (.iload_n 2, 1) := by decide +kernel
theorem dL_codeLength_6 : decode cL_codeLength 6 = .ok (.iload_n 3, 1) := by decide +kernel
theorem dL_codeLength_7 : decode cL_codeLength 7 = .ok (.iload 4, 2) := by decide +kernel
theorem dL_codeLength_9 : decode cL_codeLength 9 = .ok (.invokevirtual 100, 3) := by decide +kernel
theorem dL_codeLength_12 : decode cL_codeLength 12 = .ok (.i2l, 1) := by decide +kernel
theorem dL_codeLength_13 : decode cL_codeLength 13 = .ok (.lastore, 1) := by decide +kernel
theorem dL_codeLength_14 : decode cL_codeLength 14 = .ok (.goto 11, 3) := by decide +kernel
theorem dL_codeLength_17 : decode cL_codeLength 17 = .ok (.astore 6, 2) := by decide +kernel
theorem dL_codeLength_19 : decode cL_codeLength 19 = .ok (.iconst 1, 1) := by decide +kernel
theorem dL_codeLength_20 : decode cL_codeLength 20 = .ok (.ireturn, 1) := by decide +kernel
theorem dL_codeLength_21 : decode cL_codeLength 21 = .ok (.astore 6, 2) := by decide +kernel
theorem dL_codeLength_23 : decode cL_codeLength 23 = .ok (.iconst 2, 1) := by decide +kernel
theorem dL_codeLength_24 : decode cL_codeLength 24 = .ok (.ireturn, 1) := by decide +kernel
theorem dL_codeLength_25 : decode cL_codeLength 25 = .ok (.iconst 0, 1) := by decide +kernel
theorem dL_codeLength_26 : decode cL_codeLength 26 = .ok (.ireturn, 1) := by decide +kernel
theorem dL_rankAt_0 : decode cL_rankAt 0 = .ok (.aload 4, 2) := by decide +kernel
theorem dL_rankAt_2 : decode cL_rankAt 2 = .ok (.iconst 0, 1) := by decide +kernel
theorem dL_rankAt_3 : decode cL_rankAt 3 = .ok (.aload_n 0, 1) := by decide +kernel
theorem dL_rankAt_4 : decode cL_rankAt 4 = .ok (.iload_n 1, 1) := by decide +kernel
theorem dL_rankAt_5 : decode cL_rankAt 5 = .ok (.iload_n 2, 1) := by decide +kernel
theorem dL_rankAt_6 : decode cL_rankAt 6 = .ok (.iload_n 3, 1) := by decide +kernel
theorem dL_rankAt_7 : decode cL_rankAt 7 = .ok (.invokevirtual 103, 3) := by decide +kernel
theorem dL_rankAt_10 : decode cL_rankAt 10 = .ok (.i2l, 1) := by decide +kernel
theorem dL_rankAt_11 : decode cL_rankAt 11 = .ok (.lastore, 1) := by decide +kernel
theorem dL_rankAt_12 : decode cL_rankAt 12 = .ok (.goto 11, 3) := by decide +kernel
theorem dL_rankAt_15 : decode cL_rankAt 15 = .ok (.astore 5, 2) := by decide +kernel
theorem dL_rankAt_17 : decode cL_rankAt 17 = .ok (.iconst 1, 1) := by decide +kernel
theorem dL_rankAt_18 : decode cL_rankAt 18 = .ok (.ireturn, 1) := by decide +kernel
theorem dL_rankAt_19 : decode cL_rankAt 19 = .ok (.astore 5, 2) := by decide +kernel
theorem dL_rankAt_21 : decode cL_rankAt 21 = .ok (.iconst 2, 1) := by decide +kernel
theorem dL_rankAt_22 : decode cL_rankAt 22 = .ok (.ireturn, 1) := by decide +kernel
theorem dL_rankAt_23 : decode cL_rankAt 23 = .ok (.iconst 0, 1) := by decide +kernel
theorem dL_rankAt_24 : decode cL_rankAt 24 = .ok (.ireturn, 1) := by decide +kernel
theorem dL_totalGuesses_0 : decode cL_totalGuesses 0 = .ok (.aload_n 3, 1) := by decide +kernel
theorem dL_totalGuesses_1 : decode cL_totalGuesses 1 = .ok (.iconst 0, 1) := by decide +kernel
theorem dL_totalGuesses_2 : decode cL_totalGuesses 2 = .ok (.aload_n 0, 1) := by decide +kernel
theorem dL_totalGuesses_3 : decode cL_totalGuesses 3 = .ok (.iload_n 1, 1) := by decide +kernel
theorem dL_totalGuesses_4 : decode cL_totalGuesses 4 = .ok (.iload_n 2, 1) := by decide +kernel
theorem dL_totalGuesses_5 : decode cL_totalGuesses 5 = .ok (.invokevirtual 106, 3) := by decide +kernel
theorem dL_totalGuesses_8 : decode cL_totalGuesses 8 = .ok (.i2l, 1) := by decide +kernel
theorem dL_totalGuesses_9 : decode cL_totalGuesses 9 = .ok (.lastore, 1) := by decide +kernel
theorem dL_totalGuesses_10 : decode cL_totalGuesses 10 = .ok (.goto 7, 3) := by decide +kernel
theorem dL_totalGuesses_13 : decode cL_totalGuesses 13 = .ok (.astore 4, 2) := by decide +kernel
theorem dL_totalGuesses_15 : decode cL_totalGuesses 15 = .ok (.iconst 1, 1) := by decide +kernel
theorem dL_totalGuesses_16 : decode cL_totalGuesses 16 = .ok (.ireturn, 1) := by decide +kernel
theorem dL_totalGuesses_17 : decode cL_totalGuesses 17 = .ok (.iconst 0, 1) := by decide +kernel
theorem dL_totalGuesses_18 : decode cL_totalGuesses 18 = .ok (.ireturn, 1) := by decide +kernel
theorem dL_adaptiveGuesses_0 : decode cL_adaptiveGuesses 0 = .ok (.aload_n 3, 1) := by decide +kernel
theorem dL_adaptiveGuesses_1 : decode cL_adaptiveGuesses 1 = .ok (.iconst 0, 1) := by decide +kernel
theorem dL_adaptiveGuesses_2 : decode cL_adaptiveGuesses 2 = .ok (.aload_n 0, 1) := by decide +kernel
theorem dL_adaptiveGuesses_3 : decode cL_adaptiveGuesses 3 = .ok (.iload_n 1, 1) := by decide +kernel
theorem dL_adaptiveGuesses_4 : decode cL_adaptiveGuesses 4 = .ok (.iload_n 2, 1) := by decide +kernel
theorem dL_adaptiveGuesses_5 : decode cL_adaptiveGuesses 5 = .ok (.invokevirtual 109, 3) := by decide +kernel
theorem dL_adaptiveGuesses_8 : decode cL_adaptiveGuesses 8 = .ok (.i2l, 1) := by decide +kernel
theorem dL_adaptiveGuesses_9 : decode cL_adaptiveGuesses 9 = .ok (.lastore, 1) := by decide +kernel
theorem dL_adaptiveGuesses_10 : decode cL_adaptiveGuesses 10 = .ok (.goto 7, 3) := by decide +kernel
theorem dL_adaptiveGuesses_13 : decode cL_adaptiveGuesses 13 = .ok (.astore 4, 2) := by decide +kernel
theorem dL_adaptiveGuesses_15 : decode cL_adaptiveGuesses 15 = .ok (.iconst 1, 1) := by decide +kernel
theorem dL_adaptiveGuesses_16 : decode cL_adaptiveGuesses 16 = .ok (.ireturn, 1) := by decide +kernel
theorem dL_adaptiveGuesses_17 : decode cL_adaptiveGuesses 17 = .ok (.iconst 0, 1) := by decide +kernel
theorem dL_adaptiveGuesses_18 : decode cL_adaptiveGuesses 18 = .ok (.ireturn, 1) := by decide +kernel
theorem dL_firstGuessHits_0 : decode cL_firstGuessHits 0 = .ok (.aload_n 3, 1) := by decide +kernel
theorem dL_firstGuessHits_1 : decode cL_firstGuessHits 1 = .ok (.iconst 0, 1) := by decide +kernel
theorem dL_firstGuessHits_2 : decode cL_firstGuessHits 2 = .ok (.aload_n 0, 1) := by decide +kernel
theorem dL_firstGuessHits_3 : decode cL_firstGuessHits 3 = .ok (.iload_n 1, 1) := by decide +kernel
theorem dL_firstGuessHits_4 : decode cL_firstGuessHits 4 = .ok (.iload_n 2, 1) := by decide +kernel
theorem dL_firstGuessHits_5 : decode cL_firstGuessHits 5 = .ok (.invokevirtual 112, 3) := by decide +kernel
theorem dL_firstGuessHits_8 : decode cL_firstGuessHits 8 = .ok (.i2l, 1) := by decide +kernel
theorem dL_firstGuessHits_9 : decode cL_firstGuessHits 9 = .ok (.lastore, 1) := by decide +kernel
theorem dL_firstGuessHits_10 : decode cL_firstGuessHits 10 = .ok (.goto 7, 3) := by decide +kernel
theorem dL_firstGuessHits_13 : decode cL_firstGuessHits 13 = .ok (.astore 4, 2) := by decide +kernel
theorem dL_firstGuessHits_15 : decode cL_firstGuessHits 15 = .ok (.iconst 1, 1) := by decide +kernel
theorem dL_firstGuessHits_16 : decode cL_firstGuessHits 16 = .ok (.ireturn, 1) := by decide +kernel
theorem dL_firstGuessHits_17 : decode cL_firstGuessHits 17 = .ok (.iconst 0, 1) := by decide +kernel
theorem dL_firstGuessHits_18 : decode cL_firstGuessHits 18 = .ok (.ireturn, 1) := by decide +kernel
theorem dL_unseenSymbols_0 : decode cL_unseenSymbols 0 = .ok (.aload_n 3, 1) := by decide +kernel
theorem dL_unseenSymbols_1 : decode cL_unseenSymbols 1 = .ok (.iconst 0, 1) := by decide +kernel
theorem dL_unseenSymbols_2 : decode cL_unseenSymbols 2 = .ok (.aload_n 0, 1) := by decide +kernel
theorem dL_unseenSymbols_3 : decode cL_unseenSymbols 3 = .ok (.iload_n 1, 1) := by decide +kernel
theorem dL_unseenSymbols_4 : decode cL_unseenSymbols 4 = .ok (.iload_n 2, 1) := by decide +kernel
theorem dL_unseenSymbols_5 : decode cL_unseenSymbols 5 = .ok (.invokevirtual 115, 3) := by decide +kernel
theorem dL_unseenSymbols_8 : decode cL_unseenSymbols 8 = .ok (.i2l, 1) := by decide +kernel
theorem dL_unseenSymbols_9 : decode cL_unseenSymbols 9 = .ok (.lastore, 1) := by decide +kernel
theorem dL_unseenSymbols_10 : decode cL_unseenSymbols 10 = .ok (.goto 7, 3) := by decide +kernel
theorem dL_unseenSymbols_13 : decode cL_unseenSymbols 13 = .ok (.astore 4, 2) := by decide +kernel
theorem dL_unseenSymbols_15 : decode cL_unseenSymbols 15 = .ok (.iconst 1, 1) := by decide +kernel
theorem dL_unseenSymbols_16 : decode cL_unseenSymbols 16 = .ok (.ireturn, 1) := by decide +kernel
theorem dL_unseenSymbols_17 : decode cL_unseenSymbols 17 = .ok (.iconst 0, 1) := by decide +kernel
theorem dL_unseenSymbols_18 : decode cL_unseenSymbols 18 = .ok (.ireturn, 1) := by decide +kernel
theorem dL_hardestPosition_0 : decode cL_hardestPosition 0 = .ok (.aload_n 3, 1) := by decide +kernel
theorem dL_hardestPosition_1 : decode cL_hardestPosition 1 = .ok (.iconst 0, 1) := by decide +kernel
theorem dL_hardestPosition_2 : decode cL_hardestPosition 2 = .ok (.aload_n 0, 1) := by decide +kernel
theorem dL_hardestPosition_3 : decode cL_hardestPosition 3 = .ok (.iload_n 1, 1) := by decide +kernel
theorem dL_hardestPosition_4 : decode cL_hardestPosition 4 = .ok (.iload_n 2, 1) := by decide +kernel
theorem dL_hardestPosition_5 : decode cL_hardestPosition 5 = .ok (.invokevirtual 118, 3) := by decide +kernel
theorem dL_hardestPosition_8 : decode cL_hardestPosition 8 = .ok (.i2l, 1) := by decide +kernel
theorem dL_hardestPosition_9 : decode cL_hardestPosition 9 = .ok (.lastore, 1) := by decide +kernel
theorem dL_hardestPosition_10 : decode cL_hardestPosition 10 = .ok (.goto 7, 3) := by decide +kernel
theorem dL_hardestPosition_13 : decode cL_hardestPosition 13 = .ok (.astore 4, 2) := by decide +kernel
theorem dL_hardestPosition_15 : decode cL_hardestPosition 15 = .ok (.iconst 1, 1) := by decide +kernel
theorem dL_hardestPosition_16 : decode cL_hardestPosition 16 = .ok (.ireturn, 1) := by decide +kernel
theorem dL_hardestPosition_17 : decode cL_hardestPosition 17 = .ok (.iconst 0, 1) := by decide +kernel
theorem dL_hardestPosition_18 : decode cL_hardestPosition 18 = .ok (.ireturn, 1) := by decide +kernel
theorem dL_totalBits_0 : decode cL_totalBits 0 = .ok (.aload_n 3, 1) := by decide +kernel
theorem dL_totalBits_1 : decode cL_totalBits 1 = .ok (.iconst 0, 1) := by decide +kernel
theorem dL_totalBits_2 : decode cL_totalBits 2 = .ok (.aload_n 0, 1) := by decide +kernel
theorem dL_totalBits_3 : decode cL_totalBits 3 = .ok (.iload_n 1, 1) := by decide +kernel
theorem dL_totalBits_4 : decode cL_totalBits 4 = .ok (.iload_n 2, 1) := by decide +kernel
theorem dL_totalBits_5 : decode cL_totalBits 5 = .ok (.invokevirtual 121, 3) := by decide +kernel
theorem dL_totalBits_8 : decode cL_totalBits 8 = .ok (.i2l, 1) := by decide +kernel
theorem dL_totalBits_9 : decode cL_totalBits 9 = .ok (.lastore, 1) := by decide +kernel
theorem dL_totalBits_10 : decode cL_totalBits 10 = .ok (.goto 7, 3) := by decide +kernel
theorem dL_totalBits_13 : decode cL_totalBits 13 = .ok (.astore 4, 2) := by decide +kernel
theorem dL_totalBits_15 : decode cL_totalBits 15 = .ok (.iconst 1, 1) := by decide +kernel
theorem dL_totalBits_16 : decode cL_totalBits 16 = .ok (.ireturn, 1) := by decide +kernel
theorem dL_totalBits_17 : decode cL_totalBits 17 = .ok (.iconst 0, 1) := by decide +kernel
theorem dL_totalBits_18 : decode cL_totalBits 18 = .ok (.ireturn, 1) := by decide +kernel
theorem dL_meanGuesses_0 : decode cL_meanGuesses 0 = .ok (.aload_n 3, 1) := by decide +kernel
theorem dL_meanGuesses_1 : decode cL_meanGuesses 1 = .ok (.iconst 0, 1) := by decide +kernel
theorem dL_meanGuesses_2 : decode cL_meanGuesses 2 = .ok (.aload_n 0, 1) := by decide +kernel
theorem dL_meanGuesses_3 : decode cL_meanGuesses 3 = .ok (.iload_n 1, 1) := by decide +kernel
theorem dL_meanGuesses_4 : decode cL_meanGuesses 4 = .ok (.iload_n 2, 1) := by decide +kernel
theorem dL_meanGuesses_5 : decode cL_meanGuesses 5 = .ok (.invokevirtual 124, 3) := by decide +kernel
theorem dL_meanGuesses_8 : decode cL_meanGuesses 8 = .ok (.dastore, 1) := by decide +kernel
theorem dL_meanGuesses_9 : decode cL_meanGuesses 9 = .ok (.goto 7, 3) := by decide +kernel
theorem dL_meanGuesses_12 : decode cL_meanGuesses 12 = .ok (.astore 4, 2) := by decide +kernel
theorem dL_meanGuesses_14 : decode cL_meanGuesses 14 = .ok (.iconst 1, 1) := by decide +kernel
theorem dL_meanGuesses_15 : decode cL_meanGuesses 15 = .ok (.ireturn, 1) := by decide +kernel
theorem dL_meanGuesses_16 : decode cL_meanGuesses 16 = .ok (.iconst 0, 1) := by decide +kernel
theorem dL_meanGuesses_17 : decode cL_meanGuesses 17 = .ok (.ireturn, 1) := by decide +kernel
theorem dL_hitShare_0 : decode cL_hitShare 0 = .ok (.aload_n 3, 1) := by decide +kernel
theorem dL_hitShare_1 : decode cL_hitShare 1 = .ok (.iconst 0, 1) := by decide +kernel
theorem dL_hitShare_2 : decode cL_hitShare 2 = .ok (.aload_n 0, 1) := by decide +kernel
theorem dL_hitShare_3 : decode cL_hitShare 3 = .ok (.iload_n 1, 1) := by decide +kernel
theorem dL_hitShare_4 : decode cL_hitShare 4 = .ok (.iload_n 2, 1) := by decide +kernel
theorem dL_hitShare_5 : decode cL_hitShare 5 = .ok (.invokevirtual 128, 3) := by decide +kernel
theorem dL_hitShare_8 : decode cL_hitShare 8 = .ok (.f2d, 1) := by decide +kernel
theorem dL_hitShare_9 : decode cL_hitShare 9 = .ok (.dastore, 1) := by decide +kernel
theorem dL_hitShare_10 : decode cL_hitShare 10 = .ok (.goto 7, 3) := by decide +kernel
theorem dL_hitShare_13 : decode cL_hitShare 13 = .ok (.astore 4, 2) := by decide +kernel
theorem dL_hitShare_15 : decode cL_hitShare 15 = .ok (.iconst 1, 1) := by decide +kernel
theorem dL_hitShare_16 : decode cL_hitShare 16 = .ok (.ireturn, 1) := by decide +kernel
theorem dL_hitShare_17 : decode cL_hitShare 17 = .ok (.iconst 0, 1) := by decide +kernel
theorem dL_hitShare_18 : decode cL_hitShare 18 = .ok (.ireturn, 1) := by decide +kernel
theorem dL_bestReader_0 : decode cL_bestReader 0 = .ok (.aload_n 2, 1) := by decide +kernel
theorem dL_bestReader_1 : decode cL_bestReader 1 = .ok (.iconst 0, 1) := by decide +kernel
theorem dL_bestReader_2 : decode cL_bestReader 2 = .ok (.aload_n 0, 1) := by decide +kernel
theorem dL_bestReader_3 : decode cL_bestReader 3 = .ok (.iload_n 1, 1) := by decide +kernel
theorem dL_bestReader_4 : decode cL_bestReader 4 = .ok (.invokevirtual 132, 3) := by decide +kernel
theorem dL_bestReader_7 : decode cL_bestReader 7 = .ok (.i2l, 1) := by decide +kernel
theorem dL_bestReader_8 : decode cL_bestReader 8 = .ok (.lastore, 1) := by decide +kernel
theorem dL_bestReader_9 : decode cL_bestReader 9 = .ok (.goto 6, 3) := by decide +kernel
theorem dL_bestReader_12 : decode cL_bestReader 12 = .ok (.astore_n 3, 1) := by decide +kernel
theorem dL_bestReader_13 : decode cL_bestReader 13 = .ok (.iconst 1, 1) := by decide +kernel
theorem dL_bestReader_14 : decode cL_bestReader 14 = .ok (.ireturn, 1) := by decide +kernel
theorem dL_bestReader_15 : decode cL_bestReader 15 = .ok (.iconst 0, 1) := by decide +kernel
theorem dL_bestReader_16 : decode cL_bestReader 16 = .ok (.ireturn, 1) := by decide +kernel
theorem dL_hardestDocument_0 : decode cL_hardestDocument 0 = .ok (.aload_n 2, 1) := by decide +kernel
theorem dL_hardestDocument_1 : decode cL_hardestDocument 1 = .ok (.iconst 0, 1) := by decide +kernel
theorem dL_hardestDocument_2 : decode cL_hardestDocument 2 = .ok (.aload_n 0, 1) := by decide +kernel
theorem dL_hardestDocument_3 : decode cL_hardestDocument 3 = .ok (.iload_n 1, 1) := by decide +kernel
theorem dL_hardestDocument_4 : decode cL_hardestDocument 4 = .ok (.invokevirtual 135, 3) := by decide +kernel
theorem dL_hardestDocument_7 : decode cL_hardestDocument 7 = .ok (.i2l, 1) := by decide +kernel
theorem dL_hardestDocument_8 : decode cL_hardestDocument 8 = .ok (.lastore, 1) := by decide +kernel
theorem dL_hardestDocument_9 : decode cL_hardestDocument 9 = .ok (.goto 6, 3) := by decide +kernel
theorem dL_hardestDocument_12 : decode cL_hardestDocument 12 = .ok (.astore_n 3, 1) := by decide +kernel
theorem dL_hardestDocument_13 : decode cL_hardestDocument 13 = .ok (.iconst 1, 1) := by decide +kernel
theorem dL_hardestDocument_14 : decode cL_hardestDocument 14 = .ok (.ireturn, 1) := by decide +kernel
theorem dL_hardestDocument_15 : decode cL_hardestDocument 15 = .ok (.iconst 0, 1) := by decide +kernel
theorem dL_hardestDocument_16 : decode cL_hardestDocument 16 = .ok (.ireturn, 1) := by decide +kernel
theorem dL_guessesAfterTraining_0 : decode cL_guessesAfterTraining 0 = .ok (.aload 4, 2) := by decide +kernel
theorem dL_guessesAfterTraining_2 : decode cL_guessesAfterTraining 2 = .ok (.iconst 0, 1) := by decide +kernel
theorem dL_guessesAfterTraining_3 : decode cL_guessesAfterTraining 3 = .ok (.aload_n 0, 1) := by decide +kernel
theorem dL_guessesAfterTraining_4 : decode cL_guessesAfterTraining 4 = .ok (.iload_n 1, 1) := by decide +kernel
theorem dL_guessesAfterTraining_5 : decode cL_guessesAfterTraining 5 = .ok (.iload_n 2, 1) := by decide +kernel
theorem dL_guessesAfterTraining_6 : decode cL_guessesAfterTraining 6 = .ok (.iload_n 3, 1) := by decide +kernel
theorem dL_guessesAfterTraining_7 : decode cL_guessesAfterTraining 7 = .ok (.invokevirtual 138, 3) := by decide +kernel
theorem dL_guessesAfterTraining_10 : decode cL_guessesAfterTraining 10 = .ok (.i2l, 1) := by decide +kernel
theorem dL_guessesAfterTraining_11 : decode cL_guessesAfterTraining 11 = .ok (.lastore, 1) := by decide +kernel
theorem dL_guessesAfterTraining_12 : decode cL_guessesAfterTraining 12 = .ok (.goto 7, 3) := by decide +kernel
theorem dL_guessesAfterTraining_15 : decode cL_guessesAfterTraining 15 = .ok (.astore 5, 2) := by decide +kernel
theorem dL_guessesAfterTraining_17 : decode cL_guessesAfterTraining 17 = .ok (.iconst 1, 1) := by decide +kernel
theorem dL_guessesAfterTraining_18 : decode cL_guessesAfterTraining 18 = .ok (.ireturn, 1) := by decide +kernel
theorem dL_guessesAfterTraining_19 : decode cL_guessesAfterTraining 19 = .ok (.iconst 0, 1) := by decide +kernel
theorem dL_guessesAfterTraining_20 : decode cL_guessesAfterTraining 20 = .ok (.ireturn, 1) := by decide +kernel
theorem dL_trainingsNeeded_0 : decode cL_trainingsNeeded 0 = .ok (.aload 4, 2) := by decide +kernel
theorem dL_trainingsNeeded_2 : decode cL_trainingsNeeded 2 = .ok (.iconst 0, 1) := by decide +kernel
theorem dL_trainingsNeeded_3 : decode cL_trainingsNeeded 3 = .ok (.aload_n 0, 1) := by decide +kernel
theorem dL_trainingsNeeded_4 : decode cL_trainingsNeeded 4 = .ok (.iload_n 1, 1) := by decide +kernel
theorem dL_trainingsNeeded_5 : decode cL_trainingsNeeded 5 = .ok (.iload_n 2, 1) := by decide +kernel
theorem dL_trainingsNeeded_6 : decode cL_trainingsNeeded 6 = .ok (.iload_n 3, 1) := by decide +kernel
theorem dL_trainingsNeeded_7 : decode cL_trainingsNeeded 7 = .ok (.invokevirtual 141, 3) := by decide +kernel
theorem dL_trainingsNeeded_10 : decode cL_trainingsNeeded 10 = .ok (.i2l, 1) := by decide +kernel
theorem dL_trainingsNeeded_11 : decode cL_trainingsNeeded 11 = .ok (.lastore, 1) := by decide +kernel
theorem dL_trainingsNeeded_12 : decode cL_trainingsNeeded 12 = .ok (.goto 11, 3) := by decide +kernel
theorem dL_trainingsNeeded_15 : decode cL_trainingsNeeded 15 = .ok (.astore 5, 2) := by decide +kernel
theorem dL_trainingsNeeded_17 : decode cL_trainingsNeeded 17 = .ok (.iconst 1, 1) := by decide +kernel
theorem dL_trainingsNeeded_18 : decode cL_trainingsNeeded 18 = .ok (.ireturn, 1) := by decide +kernel
theorem dL_trainingsNeeded_19 : decode cL_trainingsNeeded 19 = .ok (.astore 5, 2) := by decide +kernel
theorem dL_trainingsNeeded_21 : decode cL_trainingsNeeded 21 = .ok (.iconst 2, 1) := by decide +kernel
theorem dL_trainingsNeeded_22 : decode cL_trainingsNeeded 22 = .ok (.ireturn, 1) := by decide +kernel
theorem dL_trainingsNeeded_23 : decode cL_trainingsNeeded 23 = .ok (.iconst 0, 1) := by decide +kernel
theorem dL_trainingsNeeded_24 : decode cL_trainingsNeeded 24 = .ok (.ireturn, 1) := by decide +kernel
theorem dL_yearsToForget_0 : decode cL_yearsToForget 0 = .ok (.aload_n 2, 1) := by decide +kernel
theorem dL_yearsToForget_1 : decode cL_yearsToForget 1 = .ok (.iconst 0, 1) := by decide +kernel
theorem dL_yearsToForget_2 : decode cL_yearsToForget 2 = .ok (.aload_n 0, 1) := by decide +kernel
theorem dL_yearsToForget_3 : decode cL_yearsToForget 3 = .ok (.iload_n 1, 1) := by decide +kernel
theorem dL_yearsToForget_4 : decode cL_yearsToForget 4 = .ok (.invokevirtual 144, 3) := by decide +kernel
theorem dL_yearsToForget_7 : decode cL_yearsToForget 7 = .ok (.i2l, 1) := by decide +kernel
theorem dL_yearsToForget_8 : decode cL_yearsToForget 8 = .ok (.lastore, 1) := by decide +kernel
theorem dL_yearsToForget_9 : decode cL_yearsToForget 9 = .ok (.goto 6, 3) := by decide +kernel
theorem dL_yearsToForget_12 : decode cL_yearsToForget 12 = .ok (.astore_n 3, 1) := by decide +kernel
theorem dL_yearsToForget_13 : decode cL_yearsToForget 13 = .ok (.iconst 1, 1) := by decide +kernel
theorem dL_yearsToForget_14 : decode cL_yearsToForget 14 = .ok (.ireturn, 1) := by decide +kernel
theorem dL_yearsToForget_15 : decode cL_yearsToForget 15 = .ok (.iconst 0, 1) := by decide +kernel
theorem dL_yearsToForget_16 : decode cL_yearsToForget 16 = .ok (.ireturn, 1) := by decide +kernel
theorem dL_agreements_0 : decode cL_agreements 0 = .ok (.aload_n 3, 1) := by decide +kernel
theorem dL_agreements_1 : decode cL_agreements 1 = .ok (.iconst 0, 1) := by decide +kernel
theorem dL_agreements_2 : decode cL_agreements 2 = .ok (.aload_n 0, 1) := by decide +kernel
theorem dL_agreements_3 : decode cL_agreements 3 = .ok (.iload_n 1, 1) := by decide +kernel
theorem dL_agreements_4 : decode cL_agreements 4 = .ok (.iload_n 2, 1) := by decide +kernel
theorem dL_agreements_5 : decode cL_agreements 5 = .ok (.invokevirtual 147, 3) := by decide +kernel
theorem dL_agreements_8 : decode cL_agreements 8 = .ok (.i2l, 1) := by decide +kernel
theorem dL_agreements_9 : decode cL_agreements 9 = .ok (.lastore, 1) := by decide +kernel
theorem dL_agreements_10 : decode cL_agreements 10 = .ok (.goto 11, 3) := by decide +kernel
theorem dL_agreements_13 : decode cL_agreements 13 = .ok (.astore 4, 2) := by decide +kernel
theorem dL_agreements_15 : decode cL_agreements 15 = .ok (.iconst 1, 1) := by decide +kernel
theorem dL_agreements_16 : decode cL_agreements 16 = .ok (.ireturn, 1) := by decide +kernel
theorem dL_agreements_17 : decode cL_agreements 17 = .ok (.astore 4, 2) := by decide +kernel
theorem dL_agreements_19 : decode cL_agreements 19 = .ok (.iconst 2, 1) := by decide +kernel
theorem dL_agreements_20 : decode cL_agreements 20 = .ok (.ireturn, 1) := by decide +kernel
theorem dL_agreements_21 : decode cL_agreements 21 = .ok (.iconst 0, 1) := by decide +kernel
theorem dL_agreements_22 : decode cL_agreements 22 = .ok (.ireturn, 1) := by decide +kernel
theorem dL_addReader_0 : decode cL_addReader 0 = .ok (.aload_n 2, 1) := by decide +kernel
theorem dL_addReader_1 : decode cL_addReader 1 = .ok (.iconst 0, 1) := by decide +kernel
theorem dL_addReader_2 : decode cL_addReader 2 = .ok (.aload_n 0, 1) := by decide +kernel
theorem dL_addReader_3 : decode cL_addReader 3 = .ok (.iload_n 1, 1) := by decide +kernel
theorem dL_addReader_4 : decode cL_addReader 4 = .ok (.invokevirtual 150, 3) := by decide +kernel
theorem dL_addReader_7 : decode cL_addReader 7 = .ok (.i2l, 1) := by decide +kernel
theorem dL_addReader_8 : decode cL_addReader 8 = .ok (.lastore, 1) := by decide +kernel
theorem dL_addReader_9 : decode cL_addReader 9 = .ok (.goto 9, 3) := by decide +kernel
theorem dL_addReader_12 : decode cL_addReader 12 = .ok (.astore_n 3, 1) := by decide +kernel
theorem dL_addReader_13 : decode cL_addReader 13 = .ok (.iconst 1, 1) := by decide +kernel
theorem dL_addReader_14 : decode cL_addReader 14 = .ok (.ireturn, 1) := by decide +kernel
theorem dL_addReader_15 : decode cL_addReader 15 = .ok (.astore_n 3, 1) := by decide +kernel
theorem dL_addReader_16 : decode cL_addReader 16 = .ok (.iconst 2, 1) := by decide +kernel
theorem dL_addReader_17 : decode cL_addReader 17 = .ok (.ireturn, 1) := by decide +kernel
theorem dL_addReader_18 : decode cL_addReader 18 = .ok (.iconst 0, 1) := by decide +kernel
theorem dL_addReader_19 : decode cL_addReader 19 = .ok (.ireturn, 1) := by decide +kernel
theorem dL_addDocument_0 : decode cL_addDocument 0 = .ok (.aload_n 1, 1) := by decide +kernel
theorem dL_addDocument_1 : decode cL_addDocument 1 = .ok (.iconst 0, 1) := by decide +kernel
theorem dL_addDocument_2 : decode cL_addDocument 2 = .ok (.aload_n 0, 1) := by decide +kernel
theorem dL_addDocument_3 : decode cL_addDocument 3 = .ok (.invokevirtual 153, 3) := by decide +kernel
theorem dL_addDocument_6 : decode cL_addDocument 6 = .ok (.i2l, 1) := by decide +kernel
theorem dL_addDocument_7 : decode cL_addDocument 7 = .ok (.lastore, 1) := by decide +kernel
theorem dL_addDocument_8 : decode cL_addDocument 8 = .ok (.goto 9, 3) := by decide +kernel
theorem dL_addDocument_11 : decode cL_addDocument 11 = .ok (.astore_n 2, 1) := by decide +kernel
theorem dL_addDocument_12 : decode cL_addDocument 12 = .ok (.iconst 1, 1) := by decide +kernel
theorem dL_addDocument_13 : decode cL_addDocument 13 = .ok (.ireturn, 1) := by decide +kernel
theorem dL_addDocument_14 : decode cL_addDocument 14 = .ok (.astore_n 2, 1) := by decide +kernel
theorem dL_addDocument_15 : decode cL_addDocument 15 = .ok (.iconst 2, 1) := by decide +kernel
theorem dL_addDocument_16 : decode cL_addDocument 16 = .ok (.ireturn, 1) := by decide +kernel
theorem dL_addDocument_17 : decode cL_addDocument 17 = .ok (.iconst 0, 1) := by decide +kernel
theorem dL_addDocument_18 : decode cL_addDocument 18 = .ok (.ireturn, 1) := by decide +kernel
theorem dL_train_0 : decode cL_train 0 = .ok (.aload_n 3, 1) := by decide +kernel
theorem dL_train_1 : decode cL_train 1 = .ok (.iconst 0, 1) := by decide +kernel
theorem dL_train_2 : decode cL_train 2 = .ok (.aload_n 0, 1) := by decide +kernel
theorem dL_train_3 : decode cL_train 3 = .ok (.iload_n 1, 1) := by decide +kernel
theorem dL_train_4 : decode cL_train 4 = .ok (.iload_n 2, 1) := by decide +kernel
theorem dL_train_5 : decode cL_train 5 = .ok (.invokevirtual 156, 3) := by decide +kernel
theorem dL_train_8 : decode cL_train 8 = .ok (.i2l, 1) := by decide +kernel
theorem dL_train_9 : decode cL_train 9 = .ok (.lastore, 1) := by decide +kernel
theorem dL_train_10 : decode cL_train 10 = .ok (.goto 7, 3) := by decide +kernel
theorem dL_train_13 : decode cL_train 13 = .ok (.astore 4, 2) := by decide +kernel
theorem dL_train_15 : decode cL_train 15 = .ok (.iconst 1, 1) := by decide +kernel
theorem dL_train_16 : decode cL_train 16 = .ok (.ireturn, 1) := by decide +kernel
theorem dL_train_17 : decode cL_train 17 = .ok (.iconst 0, 1) := by decide +kernel
theorem dL_train_18 : decode cL_train 18 = .ok (.ireturn, 1) := by decide +kernel
theorem dL_learn_0 : decode cL_learn 0 = .ok (.aload_n 3, 1) := by decide +kernel
theorem dL_learn_1 : decode cL_learn 1 = .ok (.iconst 0, 1) := by decide +kernel
theorem dL_learn_2 : decode cL_learn 2 = .ok (.aload_n 0, 1) := by decide +kernel
theorem dL_learn_3 : decode cL_learn 3 = .ok (.iload_n 1, 1) := by decide +kernel
theorem dL_learn_4 : decode cL_learn 4 = .ok (.iload_n 2, 1) := by decide +kernel
theorem dL_learn_5 : decode cL_learn 5 = .ok (.invokevirtual 159, 3) := by decide +kernel
theorem dL_learn_8 : decode cL_learn 8 = .ok (.i2l, 1) := by decide +kernel
theorem dL_learn_9 : decode cL_learn 9 = .ok (.lastore, 1) := by decide +kernel
theorem dL_learn_10 : decode cL_learn 10 = .ok (.goto 7, 3) := by decide +kernel
theorem dL_learn_13 : decode cL_learn 13 = .ok (.astore 4, 2) := by decide +kernel
theorem dL_learn_15 : decode cL_learn 15 = .ok (.iconst 1, 1) := by decide +kernel
theorem dL_learn_16 : decode cL_learn 16 = .ok (.ireturn, 1) := by decide +kernel
theorem dL_learn_17 : decode cL_learn 17 = .ok (.iconst 0, 1) := by decide +kernel
theorem dL_learn_18 : decode cL_learn 18 = .ok (.ireturn, 1) := by decide +kernel
theorem dL_forget_0 : decode cL_forget 0 = .ok (.aload_n 2, 1) := by decide +kernel
theorem dL_forget_1 : decode cL_forget 1 = .ok (.iconst 0, 1) := by decide +kernel
theorem dL_forget_2 : decode cL_forget 2 = .ok (.aload_n 0, 1) := by decide +kernel
theorem dL_forget_3 : decode cL_forget 3 = .ok (.iload_n 1, 1) := by decide +kernel
theorem dL_forget_4 : decode cL_forget 4 = .ok (.invokevirtual 162, 3) := by decide +kernel
theorem dL_forget_7 : decode cL_forget 7 = .ok (.i2l, 1) := by decide +kernel
theorem dL_forget_8 : decode cL_forget 8 = .ok (.lastore, 1) := by decide +kernel
theorem dL_forget_9 : decode cL_forget 9 = .ok (.goto 6, 3) := by decide +kernel
theorem dL_forget_12 : decode cL_forget 12 = .ok (.astore_n 3, 1) := by decide +kernel
theorem dL_forget_13 : decode cL_forget 13 = .ok (.iconst 1, 1) := by decide +kernel
theorem dL_forget_14 : decode cL_forget 14 = .ok (.ireturn, 1) := by decide +kernel
theorem dL_forget_15 : decode cL_forget 15 = .ok (.iconst 0, 1) := by decide +kernel
theorem dL_forget_16 : decode cL_forget 16 = .ok (.ireturn, 1) := by decide +kernel
theorem dL_setEscapeMethod_0 : decode cL_setEscapeMethod 0 = .ok (.aload_n 3, 1) := by decide +kernel
theorem dL_setEscapeMethod_1 : decode cL_setEscapeMethod 1 = .ok (.iconst 0, 1) := by decide +kernel
theorem dL_setEscapeMethod_2 : decode cL_setEscapeMethod 2 = .ok (.aload_n 0, 1) := by decide +kernel
theorem dL_setEscapeMethod_3 : decode cL_setEscapeMethod 3 = .ok (.iload_n 1, 1) := by decide +kernel
theorem dL_setEscapeMethod_4 : decode cL_setEscapeMethod 4 = .ok (.iload_n 2, 1) := by decide +kernel
theorem dL_setEscapeMethod_5 : decode cL_setEscapeMethod 5 = .ok (.invokevirtual 165, 3) := by decide +kernel
theorem dL_setEscapeMethod_8 : decode cL_setEscapeMethod 8 = .ok (.i2l, 1) := by decide +kernel
theorem dL_setEscapeMethod_9 : decode cL_setEscapeMethod 9 = .ok (.lastore, 1) := by decide +kernel
theorem dL_setEscapeMethod_10 : decode cL_setEscapeMethod 10 = .ok (.goto 11, 3) := by decide +kernel
theorem dL_setEscapeMethod_13 : decode cL_setEscapeMethod 13 = .ok (.astore 4, 2) := by decide +kernel
theorem dL_setEscapeMethod_15 : decode cL_setEscapeMethod 15 = .ok (.iconst 1, 1) := by decide +kernel
theorem dL_setEscapeMethod_16 : decode cL_setEscapeMethod 16 = .ok (.ireturn, 1) := by decide +kernel
theorem dL_setEscapeMethod_17 : decode cL_setEscapeMethod 17 = .ok (.astore 4, 2) := by decide +kernel
theorem dL_setEscapeMethod_19 : decode cL_setEscapeMethod 19 = .ok (.iconst 2, 1) := by decide +kernel
theorem dL_setEscapeMethod_20 : decode cL_setEscapeMethod 20 = .ok (.ireturn, 1) := by decide +kernel
theorem dL_setEscapeMethod_21 : decode cL_setEscapeMethod 21 = .ok (.iconst 0, 1) := by decide +kernel
theorem dL_setEscapeMethod_22 : decode cL_setEscapeMethod 22 = .ok (.ireturn, 1) := by decide +kernel
theorem dL_merge_0 : decode cL_merge 0 = .ok (.aload_n 3, 1) := by decide +kernel
theorem dL_merge_1 : decode cL_merge 1 = .ok (.iconst 0, 1) := by decide +kernel
theorem dL_merge_2 : decode cL_merge 2 = .ok (.aload_n 0, 1) := by decide +kernel
theorem dL_merge_3 : decode cL_merge 3 = .ok (.iload_n 1, 1) := by decide +kernel
theorem dL_merge_4 : decode cL_merge 4 = .ok (.iload_n 2, 1) := by decide +kernel
theorem dL_merge_5 : decode cL_merge 5 = .ok (.invokevirtual 168, 3) := by decide +kernel
theorem dL_merge_8 : decode cL_merge 8 = .ok (.i2l, 1) := by decide +kernel
theorem dL_merge_9 : decode cL_merge 9 = .ok (.lastore, 1) := by decide +kernel
theorem dL_merge_10 : decode cL_merge 10 = .ok (.goto 11, 3) := by decide +kernel
theorem dL_merge_13 : decode cL_merge 13 = .ok (.astore 4, 2) := by decide +kernel
theorem dL_merge_15 : decode cL_merge 15 = .ok (.iconst 1, 1) := by decide +kernel
theorem dL_merge_16 : decode cL_merge 16 = .ok (.ireturn, 1) := by decide +kernel
theorem dL_merge_17 : decode cL_merge 17 = .ok (.astore 4, 2) := by decide +kernel
theorem dL_merge_19 : decode cL_merge 19 = .ok (.iconst 2, 1) := by decide +kernel
theorem dL_merge_20 : decode cL_merge 20 = .ok (.ireturn, 1) := by decide +kernel
theorem dL_merge_21 : decode cL_merge 21 = .ok (.iconst 0, 1) := by decide +kernel
theorem dL_merge_22 : decode cL_merge 22 = .ok (.ireturn, 1) := by decide +kernel
theorem dL_encode_0 : decode cL_encode 0 = .ok (.aload_n 3, 1) := by decide +kernel
theorem dL_encode_1 : decode cL_encode 1 = .ok (.iconst 0, 1) := by decide +kernel
theorem dL_encode_2 : decode cL_encode 2 = .ok (.aload_n 0, 1) := by decide +kernel
theorem dL_encode_3 : decode cL_encode 3 = .ok (.iload_n 1, 1) := by decide +kernel
theorem dL_encode_4 : decode cL_encode 4 = .ok (.iload_n 2, 1) := by decide +kernel
theorem dL_encode_5 : decode cL_encode 5 = .ok (.invokevirtual 171, 3) := by decide +kernel
theorem dL_encode_8 : decode cL_encode 8 = .ok (.i2l, 1) := by decide +kernel
theorem dL_encode_9 : decode cL_encode 9 = .ok (.lastore, 1) := by decide +kernel
theorem dL_encode_10 : decode cL_encode 10 = .ok (.goto 7, 3) := by decide +kernel
theorem dL_encode_13 : decode cL_encode 13 = .ok (.astore 4, 2) := by decide +kernel
theorem dL_encode_15 : decode cL_encode 15 = .ok (.iconst 1, 1) := by decide +kernel
theorem dL_encode_16 : decode cL_encode 16 = .ok (.ireturn, 1) := by decide +kernel
theorem dL_encode_17 : decode cL_encode 17 = .ok (.iconst 0, 1) := by decide +kernel
theorem dL_encode_18 : decode cL_encode 18 = .ok (.ireturn, 1) := by decide +kernel
theorem dL_decode_0 : decode cL_decode 0 = .ok (.aload_n 2, 1) := by decide +kernel
theorem dL_decode_1 : decode cL_decode 1 = .ok (.iconst 0, 1) := by decide +kernel
theorem dL_decode_2 : decode cL_decode 2 = .ok (.aload_n 0, 1) := by decide +kernel
theorem dL_decode_3 : decode cL_decode 3 = .ok (.iload_n 1, 1) := by decide +kernel
theorem dL_decode_4 : decode cL_decode 4 = .ok (.invokevirtual 174, 3) := by decide +kernel
theorem dL_decode_7 : decode cL_decode 7 = .ok (.i2l, 1) := by decide +kernel
theorem dL_decode_8 : decode cL_decode 8 = .ok (.lastore, 1) := by decide +kernel
theorem dL_decode_9 : decode cL_decode 9 = .ok (.goto 9, 3) := by decide +kernel
theorem dL_decode_12 : decode cL_decode 12 = .ok (.astore_n 3, 1) := by decide +kernel
theorem dL_decode_13 : decode cL_decode 13 = .ok (.iconst 1, 1) := by decide +kernel
theorem dL_decode_14 : decode cL_decode 14 = .ok (.ireturn, 1) := by decide +kernel
theorem dL_decode_15 : decode cL_decode 15 = .ok (.astore_n 3, 1) := by decide +kernel
theorem dL_decode_16 : decode cL_decode 16 = .ok (.iconst 2, 1) := by decide +kernel
theorem dL_decode_17 : decode cL_decode 17 = .ok (.ireturn, 1) := by decide +kernel
theorem dL_decode_18 : decode cL_decode 18 = .ok (.iconst 0, 1) := by decide +kernel
theorem dL_decode_19 : decode cL_decode 19 = .ok (.ireturn, 1) := by decide +kernel
theorem dL_writeExpected_0 : decode cL_writeExpected 0 = .ok (.aload_n 3, 1) := by decide +kernel
theorem dL_writeExpected_1 : decode cL_writeExpected 1 = .ok (.iconst 0, 1) := by decide +kernel
theorem dL_writeExpected_2 : decode cL_writeExpected 2 = .ok (.aload_n 0, 1) := by decide +kernel
theorem dL_writeExpected_3 : decode cL_writeExpected 3 = .ok (.iload_n 1, 1) := by decide +kernel
theorem dL_writeExpected_4 : decode cL_writeExpected 4 = .ok (.iload_n 2, 1) := by decide +kernel
theorem dL_writeExpected_5 : decode cL_writeExpected 5 = .ok (.invokevirtual 177, 3) := by decide +kernel
theorem dL_writeExpected_8 : decode cL_writeExpected 8 = .ok (.i2l, 1) := by decide +kernel
theorem dL_writeExpected_9 : decode cL_writeExpected 9 = .ok (.lastore, 1) := by decide +kernel
theorem dL_writeExpected_10 : decode cL_writeExpected 10 = .ok (.goto 11, 3) := by decide +kernel
theorem dL_writeExpected_13 : decode cL_writeExpected 13 = .ok (.astore 4, 2) := by decide +kernel
theorem dL_writeExpected_15 : decode cL_writeExpected 15 = .ok (.iconst 1, 1) := by decide +kernel
theorem dL_writeExpected_16 : decode cL_writeExpected 16 = .ok (.ireturn, 1) := by decide +kernel
theorem dL_writeExpected_17 : decode cL_writeExpected 17 = .ok (.astore 4, 2) := by decide +kernel
theorem dL_writeExpected_19 : decode cL_writeExpected 19 = .ok (.iconst 2, 1) := by decide +kernel
theorem dL_writeExpected_20 : decode cL_writeExpected 20 = .ok (.ireturn, 1) := by decide +kernel
theorem dL_writeExpected_21 : decode cL_writeExpected 21 = .ok (.iconst 0, 1) := by decide +kernel
theorem dL_writeExpected_22 : decode cL_writeExpected 22 = .ok (.ireturn, 1) := by decide +kernel
theorem dL_outputByte_0 : decode cL_outputByte 0 = .ok (.aload_n 2, 1) := by decide +kernel
theorem dL_outputByte_1 : decode cL_outputByte 1 = .ok (.iconst 0, 1) := by decide +kernel
theorem dL_outputByte_2 : decode cL_outputByte 2 = .ok (.aload_n 0, 1) := by decide +kernel
theorem dL_outputByte_3 : decode cL_outputByte 3 = .ok (.iload_n 1, 1) := by decide +kernel
theorem dL_outputByte_4 : decode cL_outputByte 4 = .ok (.invokevirtual 180, 3) := by decide +kernel
theorem dL_outputByte_7 : decode cL_outputByte 7 = .ok (.i2l, 1) := by decide +kernel
theorem dL_outputByte_8 : decode cL_outputByte 8 = .ok (.lastore, 1) := by decide +kernel
theorem dL_outputByte_9 : decode cL_outputByte 9 = .ok (.goto 6, 3) := by decide +kernel
theorem dL_outputByte_12 : decode cL_outputByte 12 = .ok (.astore_n 3, 1) := by decide +kernel
theorem dL_outputByte_13 : decode cL_outputByte 13 = .ok (.iconst 1, 1) := by decide +kernel
theorem dL_outputByte_14 : decode cL_outputByte 14 = .ok (.ireturn, 1) := by decide +kernel
theorem dL_outputByte_15 : decode cL_outputByte 15 = .ok (.iconst 0, 1) := by decide +kernel
theorem dL_outputByte_16 : decode cL_outputByte 16 = .ok (.ireturn, 1) := by decide +kernel
theorem dL_save_0 : decode cL_save 0 = .ok (.aload_n 2, 1) := by decide +kernel
theorem dL_save_1 : decode cL_save 1 = .ok (.iconst 0, 1) := by decide +kernel
theorem dL_save_2 : decode cL_save 2 = .ok (.aload_n 0, 1) := by decide +kernel
theorem dL_save_3 : decode cL_save 3 = .ok (.iload_n 1, 1) := by decide +kernel
theorem dL_save_4 : decode cL_save 4 = .ok (.invokevirtual 183, 3) := by decide +kernel
theorem dL_save_7 : decode cL_save 7 = .ok (.i2l, 1) := by decide +kernel
theorem dL_save_8 : decode cL_save 8 = .ok (.lastore, 1) := by decide +kernel
theorem dL_save_9 : decode cL_save 9 = .ok (.goto 6, 3) := by decide +kernel
theorem dL_save_12 : decode cL_save 12 = .ok (.astore_n 3, 1) := by decide +kernel
theorem dL_save_13 : decode cL_save 13 = .ok (.iconst 1, 1) := by decide +kernel
theorem dL_save_14 : decode cL_save 14 = .ok (.ireturn, 1) := by decide +kernel
theorem dL_save_15 : decode cL_save 15 = .ok (.iconst 0, 1) := by decide +kernel
theorem dL_save_16 : decode cL_save 16 = .ok (.ireturn, 1) := by decide +kernel
theorem dL_restore_0 : decode cL_restore 0 = .ok (.aload_n 2, 1) := by decide +kernel
theorem dL_restore_1 : decode cL_restore 1 = .ok (.iconst 0, 1) := by decide +kernel
theorem dL_restore_2 : decode cL_restore 2 = .ok (.aload_n 0, 1) := by decide +kernel
theorem dL_restore_3 : decode cL_restore 3 = .ok (.iload_n 1, 1) := by decide +kernel
theorem dL_restore_4 : decode cL_restore 4 = .ok (.invokevirtual 186, 3) := by decide +kernel
theorem dL_restore_7 : decode cL_restore 7 = .ok (.i2l, 1) := by decide +kernel
theorem dL_restore_8 : decode cL_restore 8 = .ok (.lastore, 1) := by decide +kernel
theorem dL_restore_9 : decode cL_restore 9 = .ok (.goto 9, 3) := by decide +kernel
theorem dL_restore_12 : decode cL_restore 12 = .ok (.astore_n 3, 1) := by decide +kernel
theorem dL_restore_13 : decode cL_restore 13 = .ok (.iconst 1, 1) := by decide +kernel
theorem dL_restore_14 : decode cL_restore 14 = .ok (.ireturn, 1) := by decide +kernel
theorem dL_restore_15 : decode cL_restore 15 = .ok (.astore_n 3, 1) := by decide +kernel
theorem dL_restore_16 : decode cL_restore 16 = .ok (.iconst 2, 1) := by decide +kernel
theorem dL_restore_17 : decode cL_restore 17 = .ok (.ireturn, 1) := by decide +kernel
theorem dL_restore_18 : decode cL_restore 18 = .ok (.iconst 0, 1) := by decide +kernel
theorem dL_restore_19 : decode cL_restore 19 = .ok (.ireturn, 1) := by decide +kernel
theorem dL_undo_0 : decode cL_undo 0 = .ok (.aload_n 1, 1) := by decide +kernel
theorem dL_undo_1 : decode cL_undo 1 = .ok (.iconst 0, 1) := by decide +kernel
theorem dL_undo_2 : decode cL_undo 2 = .ok (.aload_n 0, 1) := by decide +kernel
theorem dL_undo_3 : decode cL_undo 3 = .ok (.invokevirtual 189, 3) := by decide +kernel
theorem dL_undo_6 : decode cL_undo 6 = .ok (.i2l, 1) := by decide +kernel
theorem dL_undo_7 : decode cL_undo 7 = .ok (.lastore, 1) := by decide +kernel
theorem dL_undo_8 : decode cL_undo 8 = .ok (.goto 6, 3) := by decide +kernel
theorem dL_undo_11 : decode cL_undo 11 = .ok (.astore_n 2, 1) := by decide +kernel
theorem dL_undo_12 : decode cL_undo 12 = .ok (.iconst 1, 1) := by decide +kernel
theorem dL_undo_13 : decode cL_undo 13 = .ok (.ireturn, 1) := by decide +kernel
theorem dL_undo_14 : decode cL_undo 14 = .ok (.iconst 0, 1) := by decide +kernel
theorem dL_undo_15 : decode cL_undo 15 = .ok (.ireturn, 1) := by decide +kernel
