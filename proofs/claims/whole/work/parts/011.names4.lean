set_option maxRecDepth 20000 in
theorem gX6_gives_X6_told : GoodIn wsX6_gives (wsV RX6 156 RX6 yX6_told wsX6_told) := goodIn_app (goodIn_of _ (by decide +kernel)) ggX6_gives_X6_told
theorem dX6_gives_0 : decode cX6_gives 0 = .ok (.aload_n 0, 1) := by decide +kernel
theorem dX6_gives_1 : decode cX6_gives 1 = .ok (.iload_n 1, 1) := by decide +kernel
theorem dX6_gives_2 : decode cX6_gives 2 = .ok (.bipush 50, 2) := by decide +kernel
theorem dX6_gives_4 : decode cX6_gives 4 = .ok (.invokevirtual 156, 3) := by decide +kernel
theorem dX6_gives_7 : decode cX6_gives 7 = .ok (.ireturn, 1) := by decide +kernel
set_option maxRecDepth 20000 in
theorem ggX6_least_X6_isSentence : GoodIn wsX6_least wsX6_isSentence := goodIn_r _ [7, 8, 9, 10, 6, 11, 19, 20, 21, 22, 23, 24, 25, 26, 27, 28, 29, 30, 31, 32] (by decide +kernel) (by decide +kernel)
set_option maxRecDepth 20000 in
theorem gX6_least_X6_isSentence : GoodIn wsX6_least (wsV RX6 142 RX6 yX6_isSentence wsX6_isSentence) := goodIn_app (goodIn_of _ (by decide +kernel)) ggX6_least_X6_isSentence
set_option maxRecDepth 20000 in
theorem ggX6_least_X6_isFact : GoodIn wsX6_least wsX6_isFact := goodIn_r _ [14, 9, 10, 6, 11] (by decide +kernel) (by decide +kernel)
set_option maxRecDepth 20000 in
theorem gX6_least_X6_isFact : GoodIn wsX6_least (va_wsS RX6 149 yX6_isFact wsX6_isFact) := goodIn_app (goodIn_of _ (by decide +kernel)) ggX6_least_X6_isFact
set_option maxRecDepth 20000 in
theorem ggX6_least_X6_of : GoodIn wsX6_least wsX6_of := goodIn_r _ [18, 8, 19, 20, 21, 22, 23, 24, 25, 26, 27, 28, 29, 30, 31, 32] (by decide +kernel) (by decide +kernel)
set_option maxRecDepth 20000 in
theorem gX6_least_X6_of : GoodIn wsX6_least (wsV RX6 97 RX6 yX6_of wsX6_of) := goodIn_app (goodIn_of _ (by decide +kernel)) ggX6_least_X6_of
theorem dX6_least_0 : decode cX6_least 0 = .ok (.aload_n 0, 1) := by decide +kernel
theorem dX6_least_1 : decode cX6_least 1 = .ok (.iload_n 1, 1) := by decide +kernel
theorem dX6_least_2 : decode cX6_least 2 = .ok (.invokevirtual 142, 3) := by decide +kernel
theorem dX6_least_5 : decode cX6_least 5 = .ok (.ifCond .ne 8, 3) := by decide +kernel
theorem dX6_least_8 : decode cX6_least 8 = .ok (.ldc 145, 2) := by decide +kernel
theorem dX6_least_10 : decode cX6_least 10 = .ok (.goto 24, 3) := by decide +kernel
theorem dX6_least_13 : decode cX6_least 13 = .ok (.iload_n 2, 1) := by decide +kernel
theorem dX6_least_14 : decode cX6_least 14 = .ok (.invokestatic 149, 3) := by decide +kernel
theorem dX6_least_17 : decode cX6_least 17 = .ok (.ifCond .eq 15, 3) := by decide +kernel
theorem dX6_least_20 : decode cX6_least 20 = .ok (.aload_n 0, 1) := by decide +kernel
theorem dX6_least_21 : decode cX6_least 21 = .ok (.iload_n 1, 1) := by decide +kernel
theorem dX6_least_22 : decode cX6_least 22 = .ok (.bipush 52, 2) := by decide +kernel
theorem dX6_least_24 : decode cX6_least 24 = .ok (.iload_n 2, 1) := by decide +kernel
theorem dX6_least_25 : decode cX6_least 25 = .ok (.iadd, 1) := by decide +kernel
theorem dX6_least_26 : decode cX6_least 26 = .ok (.invokevirtual 97, 3) := by decide +kernel
theorem dX6_least_29 : decode cX6_least 29 = .ok (.goto 5, 3) := by decide +kernel
theorem dX6_least_32 : decode cX6_least 32 = .ok (.ldc 64, 2) := by decide +kernel
theorem dX6_least_34 : decode cX6_least 34 = .ok (.ireturn, 1) := by decide +kernel
set_option maxRecDepth 20000 in
theorem ggX6_greatest_X6_isSentence : GoodIn wsX6_greatest wsX6_isSentence := goodIn_r _ [7, 8, 9, 10, 6, 11, 19, 20, 21, 22, 23, 24, 25, 26, 27, 28, 29, 30, 31, 32] (by decide +kernel) (by decide +kernel)
set_option maxRecDepth 20000 in
theorem gX6_greatest_X6_isSentence : GoodIn wsX6_greatest (wsV RX6 142 RX6 yX6_isSentence wsX6_isSentence) := goodIn_app (goodIn_of _ (by decide +kernel)) ggX6_greatest_X6_isSentence
set_option maxRecDepth 20000 in
theorem ggX6_greatest_X6_isFact : GoodIn wsX6_greatest wsX6_isFact := goodIn_r _ [14, 9, 10, 6, 11] (by decide +kernel) (by decide +kernel)
set_option maxRecDepth 20000 in
theorem gX6_greatest_X6_isFact : GoodIn wsX6_greatest (va_wsS RX6 149 yX6_isFact wsX6_isFact) := goodIn_app (goodIn_of _ (by decide +kernel)) ggX6_greatest_X6_isFact
set_option maxRecDepth 20000 in
theorem ggX6_greatest_X6_of : GoodIn wsX6_greatest wsX6_of := goodIn_r _ [18, 8, 19, 20, 21, 22, 23, 24, 25, 26, 27, 28, 29, 30, 31, 32] (by decide +kernel) (by decide +kernel)
set_option maxRecDepth 20000 in
theorem gX6_greatest_X6_of : GoodIn wsX6_greatest (wsV RX6 97 RX6 yX6_of wsX6_of) := goodIn_app (goodIn_of _ (by decide +kernel)) ggX6_greatest_X6_of
theorem dX6_greatest_0 : decode cX6_greatest 0 = .ok (.aload_n 0, 1) := by decide +kernel
theorem dX6_greatest_1 : decode cX6_greatest 1 = .ok (.iload_n 1, 1) := by decide +kernel
theorem dX6_greatest_2 : decode cX6_greatest 2 = .ok (.invokevirtual 142, 3) := by decide +kernel
theorem dX6_greatest_5 : decode cX6_greatest 5 = .ok (.ifCond .ne 8, 3) := by decide +kernel
theorem dX6_greatest_8 : decode cX6_greatest 8 = .ok (.ldc 145, 2) := by decide +kernel
theorem dX6_greatest_10 : decode cX6_greatest 10 = .ok (.goto 24, 3) := by decide +kernel
theorem dX6_greatest_13 : decode cX6_greatest 13 = .ok (.iload_n 2, 1) := by decide +kernel
theorem dX6_greatest_14 : decode cX6_greatest 14 = .ok (.invokestatic 149, 3) := by decide +kernel
theorem dX6_greatest_17 : decode cX6_greatest 17 = .ok (.ifCond .eq 15, 3) := by decide +kernel
theorem dX6_greatest_20 : decode cX6_greatest 20 = .ok (.aload_n 0, 1) := by decide +kernel
theorem dX6_greatest_21 : decode cX6_greatest 21 = .ok (.iload_n 1, 1) := by decide +kernel
theorem dX6_greatest_22 : decode cX6_greatest 22 = .ok (.bipush 59, 2) := by decide +kernel
theorem dX6_greatest_24 : decode cX6_greatest 24 = .ok (.iload_n 2, 1) := by decide +kernel
theorem dX6_greatest_25 : decode cX6_greatest 25 = .ok (.iadd, 1) := by decide +kernel
theorem dX6_greatest_26 : decode cX6_greatest 26 = .ok (.invokevirtual 97, 3) := by decide +kernel
theorem dX6_greatest_29 : decode cX6_greatest 29 = .ok (.goto 5, 3) := by decide +kernel
theorem dX6_greatest_32 : decode cX6_greatest 32 = .ok (.ldc 64, 2) := by decide +kernel
theorem dX6_greatest_34 : decode cX6_greatest 34 = .ok (.ireturn, 1) := by decide +kernel
set_option maxRecDepth 20000 in
theorem ggX6_sharpnessOf_X6_of : GoodIn wsX6_sharpnessOf wsX6_of := goodIn_r _ [5, 6, 14, 15, 16, 17, 18, 19, 20, 21, 22, 23, 24, 25, 26, 27] (by decide +kernel) (by decide +kernel)
set_option maxRecDepth 20000 in
theorem gX6_sharpnessOf_X6_of : GoodIn wsX6_sharpnessOf (wsV RX6 97 RX6 yX6_of wsX6_of) := goodIn_app (goodIn_of _ (by decide +kernel)) ggX6_sharpnessOf_X6_of
set_option maxRecDepth 20000 in
theorem ggX6_sharpnessOf_X6_leastOf : GoodIn wsX6_sharpnessOf wsX6_leastOf := goodIn_r _ [9] (by decide +kernel) (by decide +kernel)
set_option maxRecDepth 20000 in
theorem gX6_sharpnessOf_X6_leastOf : GoodIn wsX6_sharpnessOf (va_wsS RX6 113 yX6_leastOf wsX6_leastOf) := goodIn_app (goodIn_of _ (by decide +kernel)) ggX6_sharpnessOf_X6_leastOf
set_option maxRecDepth 20000 in
theorem ggX6_sharpnessOf_X6_greatestOf : GoodIn wsX6_sharpnessOf wsX6_greatestOf := goodIn_r _ [12, 13] (by decide +kernel) (by decide +kernel)
set_option maxRecDepth 20000 in
theorem gX6_sharpnessOf_X6_greatestOf : GoodIn wsX6_sharpnessOf (va_wsS RX6 116 yX6_greatestOf wsX6_greatestOf) := goodIn_app (goodIn_of _ (by decide +kernel)) ggX6_sharpnessOf_X6_greatestOf
theorem dX6_sharpnessOf_0 : decode cX6_sharpnessOf 0 = .ok (.iconst 0, 1) := by decide +kernel
theorem dX6_sharpnessOf_1 : decode cX6_sharpnessOf 1 = .ok (.istore_n 2, 1) := by decide +kernel
theorem dX6_sharpnessOf_2 : decode cX6_sharpnessOf 2 = .ok (.iconst 0, 1) := by decide +kernel
theorem dX6_sharpnessOf_3 : decode cX6_sharpnessOf 3 = .ok (.istore_n 3, 1) := by decide +kernel
theorem dX6_sharpnessOf_4 : decode cX6_sharpnessOf 4 = .ok (.iload_n 3, 1) := by decide +kernel
theorem dX6_sharpnessOf_5 : decode cX6_sharpnessOf 5 = .ok (.bipush 7, 2) := by decide +kernel
theorem dX6_sharpnessOf_7 : decode cX6_sharpnessOf 7 = .ok (.if_icmp .ge 49, 3) := by decide +kernel
theorem dX6_sharpnessOf_10 : decode cX6_sharpnessOf 10 = .ok (.iload_n 2, 1) := by decide +kernel
theorem dX6_sharpnessOf_11 : decode cX6_sharpnessOf 11 = .ok (.aload_n 0, 1) := by decide +kernel
theorem dX6_sharpnessOf_12 : decode cX6_sharpnessOf 12 = .ok (.iload_n 1, 1) := by decide +kernel
theorem dX6_sharpnessOf_13 : decode cX6_sharpnessOf 13 = .ok (.bipush 52, 2) := by decide +kernel
theorem dX6_sharpnessOf_15 : decode cX6_sharpnessOf 15 = .ok (.iload_n 3, 1) := by decide +kernel
theorem dX6_sharpnessOf_16 : decode cX6_sharpnessOf 16 = .ok (.iadd, 1) := by decide +kernel
theorem dX6_sharpnessOf_17 : decode cX6_sharpnessOf 17 = .ok (.invokevirtual 97, 3) := by decide +kernel
theorem dX6_sharpnessOf_20 : decode cX6_sharpnessOf 20 = .ok (.iload_n 3, 1) := by decide +kernel
theorem dX6_sharpnessOf_21 : decode cX6_sharpnessOf 21 = .ok (.invokestatic 113, 3) := by decide +kernel
theorem dX6_sharpnessOf_24 : decode cX6_sharpnessOf 24 = .ok (.if_icmp .ne 19, 3) := by decide +kernel
theorem dX6_sharpnessOf_27 : decode cX6_sharpnessOf 27 = .ok (.aload_n 0, 1) := by decide +kernel
theorem dX6_sharpnessOf_28 : decode cX6_sharpnessOf 28 = .ok (.iload_n 1, 1) := by decide +kernel
theorem dX6_sharpnessOf_29 : decode cX6_sharpnessOf 29 = .ok (.bipush 59, 2) := by decide +kernel
theorem dX6_sharpnessOf_31 : decode cX6_sharpnessOf 31 = .ok (.iload_n 3, 1) := by decide +kernel
theorem dX6_sharpnessOf_32 : decode cX6_sharpnessOf 32 = .ok (.iadd, 1) := by decide +kernel
theorem dX6_sharpnessOf_33 : decode cX6_sharpnessOf 33 = .ok (.invokevirtual 97, 3) := by decide +kernel
theorem dX6_sharpnessOf_36 : decode cX6_sharpnessOf 36 = .ok (.iload_n 3, 1) := by decide +kernel
theorem dX6_sharpnessOf_37 : decode cX6_sharpnessOf 37 = .ok (.invokestatic 116, 3) := by decide +kernel
theorem dX6_sharpnessOf_40 : decode cX6_sharpnessOf 40 = .ok (.if_icmp .eq 7, 3) := by decide +kernel
theorem dX6_sharpnessOf_43 : decode cX6_sharpnessOf 43 = .ok (.iconst 1, 1) := by decide +kernel
theorem dX6_sharpnessOf_44 : decode cX6_sharpnessOf 44 = .ok (.goto 4, 3) := by decide +kernel
theorem dX6_sharpnessOf_47 : decode cX6_sharpnessOf 47 = .ok (.iconst 0, 1) := by decide +kernel
theorem dX6_sharpnessOf_48 : decode cX6_sharpnessOf 48 = .ok (.iadd, 1) := by decide +kernel
theorem dX6_sharpnessOf_49 : decode cX6_sharpnessOf 49 = .ok (.istore_n 2, 1) := by decide +kernel
theorem dX6_sharpnessOf_50 : decode cX6_sharpnessOf 50 = .ok (.iinc 3 1, 3) := by decide +kernel
theorem dX6_sharpnessOf_53 : decode cX6_sharpnessOf 53 = .ok (.goto (-49), 3) := by decide +kernel
theorem dX6_sharpnessOf_56 : decode cX6_sharpnessOf 56 = .ok (.iload_n 2, 1) := by decide +kernel
theorem dX6_sharpnessOf_57 : decode cX6_sharpnessOf 57 = .ok (.ireturn, 1) := by decide +kernel
set_option maxRecDepth 20000 in
theorem ggX6_sharpness_X6_isSentence : GoodIn wsX6_sharpness wsX6_isSentence := goodIn_r _ [6, 7, 8, 9, 5, 10, 26, 27, 28, 29, 30, 31, 32, 33, 34, 35, 36, 37, 38, 39] (by decide +kernel) (by decide +kernel)
set_option maxRecDepth 20000 in
theorem gX6_sharpness_X6_isSentence : GoodIn wsX6_sharpness (wsV RX6 142 RX6 yX6_isSentence wsX6_isSentence) := goodIn_app (goodIn_of _ (by decide +kernel)) ggX6_sharpness_X6_isSentence
set_option maxRecDepth 20000 in
theorem ggX6_sharpness_X6_sharpnessOf : GoodIn wsX6_sharpness wsX6_sharpnessOf := goodIn_r _ [14, 15, 16, 17, 5, 18, 7, 19, 20, 21, 22, 23, 24, 25, 26, 27, 28, 29, 30, 31, 32, 33, 34, 35, 36, 37, 38, 39] (by decide +kernel) (by decide +kernel)
set_option maxRecDepth 20000 in
theorem gX6_sharpness_X6_sharpnessOf : GoodIn wsX6_sharpness (wsV RX6 159 RX6 yX6_sharpnessOf wsX6_sharpnessOf) := goodIn_app (goodIn_of _ (by decide +kernel)) ggX6_sharpness_X6_sharpnessOf
theorem dX6_sharpness_0 : decode cX6_sharpness 0 = .ok (.aload_n 0, 1) := by decide +kernel
theorem dX6_sharpness_1 : decode cX6_sharpness 1 = .ok (.iload_n 1, 1) := by decide +kernel
theorem dX6_sharpness_2 : decode cX6_sharpness 2 = .ok (.invokevirtual 142, 3) := by decide +kernel
theorem dX6_sharpness_5 : decode cX6_sharpness 5 = .ok (.ifCond .eq 11, 3) := by decide +kernel
theorem dX6_sharpness_8 : decode cX6_sharpness 8 = .ok (.aload_n 0, 1) := by decide +kernel
theorem dX6_sharpness_9 : decode cX6_sharpness 9 = .ok (.iload_n 1, 1) := by decide +kernel
theorem dX6_sharpness_10 : decode cX6_sharpness 10 = .ok (.invokevirtual 159, 3) := by decide +kernel
theorem dX6_sharpness_13 : decode cX6_sharpness 13 = .ok (.goto 5, 3) := by decide +kernel
theorem dX6_sharpness_16 : decode cX6_sharpness 16 = .ok (.ldc 145, 2) := by decide +kernel
theorem dX6_sharpness_18 : decode cX6_sharpness 18 = .ok (.ireturn, 1) := by decide +kernel
set_option maxRecDepth 20000 in
theorem ggX6_uses_X6_told : GoodIn wsX6_uses wsX6_told := goodIn_r _ [5, 6, 7, 8, 9, 4, 10, 11, 12, 13, 14, 15, 16, 17, 18, 19, 20, 21, 22, 23, 24, 25, 26, 27, 28, 29, 30, 31, 32] (by decide +kernel) (by decide +kernel)
set_option maxRecDepth 20000 in
theorem gX6_uses_X6_told : GoodIn wsX6_uses (wsV RX6 156 RX6 yX6_told wsX6_told) := goodIn_app (goodIn_of _ (by decide +kernel)) ggX6_uses_X6_told
theorem dX6_uses_0 : decode cX6_uses 0 = .ok (.aload_n 0, 1) := by decide +kernel
theorem dX6_uses_1 : decode cX6_uses 1 = .ok (.iload_n 1, 1) := by decide +kernel
theorem dX6_uses_2 : decode cX6_uses 2 = .ok (.bipush 51, 2) := by decide +kernel
theorem dX6_uses_4 : decode cX6_uses 4 = .ok (.invokevirtual 156, 3) := by decide +kernel
theorem dX6_uses_7 : decode cX6_uses 7 = .ok (.ireturn, 1) := by decide +kernel
set_option maxRecDepth 20000 in
theorem ggX6_fact_X6_isFact : GoodIn wsX6_fact wsX6_isFact := goodIn_r _ [6, 7, 8, 5, 9] (by decide +kernel) (by decide +kernel)
set_option maxRecDepth 20000 in
theorem gX6_fact_X6_isFact : GoodIn wsX6_fact (va_wsS RX6 149 yX6_isFact wsX6_isFact) := goodIn_app (goodIn_of _ (by decide +kernel)) ggX6_fact_X6_isFact
theorem dX6_fact_0 : decode cX6_fact 0 = .ok (.iload_n 1, 1) := by decide +kernel
theorem dX6_fact_1 : decode cX6_fact 1 = .ok (.invokestatic 149, 3) := by decide +kernel
theorem dX6_fact_4 : decode cX6_fact 4 = .ok (.ifCond .eq 12, 3) := by decide +kernel
theorem dX6_fact_7 : decode cX6_fact 7 = .ok (.aload_n 0, 1) := by decide +kernel
theorem dX6_fact_8 : decode cX6_fact 8 = .ok (.getfield 7, 3) := by decide +kernel
theorem dX6_fact_11 : decode cX6_fact 11 = .ok (.iload_n 1, 1) := by decide +kernel
theorem dX6_fact_12 : decode cX6_fact 12 = .ok (.iaload, 1) := by decide +kernel
theorem dX6_fact_13 : decode cX6_fact 13 = .ok (.goto 5, 3) := by decide +kernel
theorem dX6_fact_16 : decode cX6_fact 16 = .ok (.ldc 64, 2) := by decide +kernel
theorem dX6_fact_18 : decode cX6_fact 18 = .ok (.ireturn, 1) := by decide +kernel
set_option maxRecDepth 20000 in
theorem ggX6_definition_X6_in : GoodIn wsX6_definition wsX6_in := goodIn_r _ [5] (by decide +kernel) (by decide +kernel)
set_option maxRecDepth 20000 in
theorem gX6_definition_X6_in : GoodIn wsX6_definition (va_wsS RX6 42 yX6_in wsX6_in) := goodIn_app (goodIn_of _ (by decide +kernel)) ggX6_definition_X6_in
set_option maxRecDepth 20000 in
theorem ggX6_definition_X6_definitionOf : GoodIn wsX6_definition wsX6_definitionOf := goodIn_r _ [9, 10, 11, 12, 13, 14, 4, 15, 16, 17, 18, 19, 20, 21, 22, 23, 24, 25, 26, 27, 28, 29] (by decide +kernel) (by decide +kernel)
set_option maxRecDepth 20000 in
theorem gX6_definition_X6_definitionOf : GoodIn wsX6_definition (wsV RX6 103 RX6 yX6_definitionOf wsX6_definitionOf) := goodIn_app (goodIn_of _ (by decide +kernel)) ggX6_definition_X6_definitionOf
theorem dX6_definition_0 : decode cX6_definition 0 = .ok (.iload_n 1, 1) := by decide +kernel
theorem dX6_definition_1 : decode cX6_definition 1 = .ok (.iconst 0, 1) := by decide +kernel
theorem dX6_definition_2 : decode cX6_definition 2 = .ok (.iconst 5, 1) := by decide +kernel
theorem dX6_definition_3 : decode cX6_definition 3 = .ok (.invokestatic 42, 3) := by decide +kernel
theorem dX6_definition_6 : decode cX6_definition 6 = .ok (.ifCond .eq 11, 3) := by decide +kernel
theorem dX6_definition_9 : decode cX6_definition 9 = .ok (.aload_n 0, 1) := by decide +kernel
theorem dX6_definition_10 : decode cX6_definition 10 = .ok (.iload_n 1, 1) := by decide +kernel
theorem dX6_definition_11 : decode cX6_definition 11 = .ok (.invokevirtual 103, 3) := by decide +kernel
theorem dX6_definition_14 : decode cX6_definition 14 = .ok (.goto 5, 3) := by decide +kernel
theorem dX6_definition_17 : decode cX6_definition 17 = .ok (.ldc 64, 2) := by decide +kernel
theorem dX6_definition_19 : decode cX6_definition 19 = .ok (.ireturn, 1) := by decide +kernel
theorem dX6_write_0 : decode cX6_write 0 = .ok (.aload_n 0, 1) := by decide +kernel
theorem dX6_write_1 : decode cX6_write 1 = .ok (.getfield 25, 3) := by decide +kernel
theorem dX6_write_4 : decode cX6_write 4 = .ok (.aload_n 0, 1) := by decide +kernel
theorem dX6_write_5 : decode cX6_write 5 = .ok (.getfield 162, 3) := by decide +kernel
theorem dX6_write_8 : decode cX6_write 8 = .ok (.iload_n 1, 1) := by decide +kernel
theorem dX6_write_9 : decode cX6_write 9 = .ok (.iastore, 1) := by decide +kernel
theorem dX6_write_10 : decode cX6_write 10 = .ok (.aload_n 0, 1) := by decide +kernel
theorem dX6_write_11 : decode cX6_write 11 = .ok (.dup, 1) := by decide +kernel
theorem dX6_write_12 : decode cX6_write 12 = .ok (.getfield 162, 3) := by decide +kernel
theorem dX6_write_15 : decode cX6_write 15 = .ok (.iconst 1, 1) := by decide +kernel
theorem dX6_write_16 : decode cX6_write 16 = .ok (.iadd, 1) := by decide +kernel
theorem dX6_write_17 : decode cX6_write 17 = .ok (.putfield 162, 3) := by decide +kernel
theorem dX6_write_20 : decode cX6_write 20 = .ok (.return_, 1) := by decide +kernel
set_option maxRecDepth 20000 in
theorem ggX6_writeWord_X6_write : GoodIn wsX6_writeWord wsX6_write := goodIn_r _ [6, 7, 8, 9, 10, 11, 12, 13, 14, 15, 16, 17, 18, 19, 20, 21, 22] (by decide +kernel) (by decide +kernel)
set_option maxRecDepth 20000 in
theorem gX6_writeWord_X6_write : GoodIn wsX6_writeWord (wsV RX6 165 RX6 yX6_write wsX6_write) := goodIn_app (goodIn_of _ (by decide +kernel)) ggX6_writeWord_X6_write
theorem dX6_writeWord_0 : decode cX6_writeWord 0 = .ok (.iconst 1, 1) := by decide +kernel
theorem dX6_writeWord_1 : decode cX6_writeWord 1 = .ok (.istore_n 2, 1) := by decide +kernel
theorem dX6_writeWord_2 : decode cX6_writeWord 2 = .ok (.aload_n 0, 1) := by decide +kernel
theorem dX6_writeWord_3 : decode cX6_writeWord 3 = .ok (.getfield 13, 3) := by decide +kernel
theorem dX6_writeWord_6 : decode cX6_writeWord 6 = .ok (.iload_n 1, 1) := by decide +kernel
theorem dX6_writeWord_7 : decode cX6_writeWord 7 = .ok (.iaload, 1) := by decide +kernel
theorem dX6_writeWord_8 : decode cX6_writeWord 8 = .ok (.iload_n 2, 1) := by decide +kernel
theorem dX6_writeWord_9 : decode cX6_writeWord 9 = .ok (.idiv, 1) := by decide +kernel
theorem dX6_writeWord_10 : decode cX6_writeWord 10 = .ok (.bipush 26, 2) := by decide +kernel
theorem dX6_writeWord_12 : decode cX6_writeWord 12 = .ok (.if_icmp .le 11, 3) := by decide +kernel
theorem dX6_writeWord_15 : decode cX6_writeWord 15 = .ok (.iload_n 2, 1) := by decide +kernel
theorem dX6_writeWord_16 : decode cX6_writeWord 16 = .ok (.bipush 27, 2) := by decide +kernel
theorem dX6_writeWord_18 : decode cX6_writeWord 18 = .ok (.imul, 1) := by decide +kernel
theorem dX6_writeWord_19 : decode cX6_writeWord 19 = .ok (.istore_n 2, 1) := by decide +kernel
theorem dX6_writeWord_20 : decode cX6_writeWord 20 = .ok (.goto (-18), 3) := by decide +kernel
theorem dX6_writeWord_23 : decode cX6_writeWord 23 = .ok (.iload_n 2, 1) := by decide +kernel
theorem dX6_writeWord_24 : decode cX6_writeWord 24 = .ok (.ifCond .le 29, 3) := by decide +kernel
theorem dX6_writeWord_27 : decode cX6_writeWord 27 = .ok (.aload_n 0, 1) := by decide +kernel
theorem dX6_writeWord_28 : decode cX6_writeWord 28 = .ok (.bipush 96, 2) := by decide +kernel
theorem dX6_writeWord_30 : decode cX6_writeWord 30 = .ok (.aload_n 0, 1) := by decide +kernel
theorem dX6_writeWord_31 : decode cX6_writeWord 31 = .ok (.getfield 13, 3) := by decide +kernel
theorem dX6_writeWord_34 : decode cX6_writeWord 34 = .ok (.iload_n 1, 1) := by decide +kernel
theorem dX6_writeWord_35 : decode cX6_writeWord 35 = .ok (.iaload, 1) := by decide +kernel
theorem dX6_writeWord_36 : decode cX6_writeWord 36 = .ok (.iload_n 2, 1) := by decide +kernel
theorem dX6_writeWord_37 : decode cX6_writeWord 37 = .ok (.idiv, 1) := by decide +kernel
theorem dX6_writeWord_38 : decode cX6_writeWord 38 = .ok (.bipush 27, 2) := by decide +kernel
theorem dX6_writeWord_40 : decode cX6_writeWord 40 = .ok (.irem, 1) := by decide +kernel
theorem dX6_writeWord_41 : decode cX6_writeWord 41 = .ok (.iadd, 1) := by decide +kernel
theorem dX6_writeWord_42 : decode cX6_writeWord 42 = .ok (.invokevirtual 165, 3) := by decide +kernel
theorem dX6_writeWord_45 : decode cX6_writeWord 45 = .ok (.iload_n 2, 1) := by decide +kernel
theorem dX6_writeWord_46 : decode cX6_writeWord 46 = .ok (.bipush 27, 2) := by decide +kernel
theorem dX6_writeWord_48 : decode cX6_writeWord 48 = .ok (.idiv, 1) := by decide +kernel
theorem dX6_writeWord_49 : decode cX6_writeWord 49 = .ok (.istore_n 2, 1) := by decide +kernel
theorem dX6_writeWord_50 : decode cX6_writeWord 50 = .ok (.goto (-27), 3) := by decide +kernel
theorem dX6_writeWord_53 : decode cX6_writeWord 53 = .ok (.return_, 1) := by decide +kernel
set_option maxRecDepth 20000 in
theorem ggX6_writeNumber_X6_write : GoodIn wsX6_writeNumber wsX6_write := goodIn_r _ [5, 6, 7, 8, 9, 10, 11, 12, 13, 14, 15, 16, 17, 18, 19, 20, 21] (by decide +kernel) (by decide +kernel)
set_option maxRecDepth 20000 in
theorem gX6_writeNumber_X6_write : GoodIn wsX6_writeNumber (wsV RX6 165 RX6 yX6_write wsX6_write) := goodIn_app (goodIn_of _ (by decide +kernel)) ggX6_writeNumber_X6_write
theorem dX6_writeNumber_0 : decode cX6_writeNumber 0 = .ok (.iconst 1, 1) := by decide +kernel
theorem dX6_writeNumber_1 : decode cX6_writeNumber 1 = .ok (.istore_n 3, 1) := by decide +kernel
theorem dX6_writeNumber_2 : decode cX6_writeNumber 2 = .ok (.iconst 1, 1) := by decide +kernel
theorem dX6_writeNumber_3 : decode cX6_writeNumber 3 = .ok (.istore 4, 2) := by decide +kernel
theorem dX6_writeNumber_5 : decode cX6_writeNumber 5 = .ok (.iload 4, 2) := by decide +kernel
theorem dX6_writeNumber_7 : decode cX6_writeNumber 7 = .ok (.iload_n 2, 1) := by decide +kernel
theorem dX6_writeNumber_8 : decode cX6_writeNumber 8 = .ok (.if_icmp .lt 11, 3) := by decide +kernel
theorem dX6_writeNumber_11 : decode cX6_writeNumber 11 = .ok (.iload_n 1, 1) := by decide +kernel
theorem dX6_writeNumber_12 : decode cX6_writeNumber 12 = .ok (.iload_n 3, 1) := by decide +kernel
theorem dX6_writeNumber_13 : decode cX6_writeNumber 13 = .ok (.idiv, 1) := by decide +kernel
theorem dX6_writeNumber_14 : decode cX6_writeNumber 14 = .ok (.bipush 9, 2) := by decide +kernel
theorem dX6_writeNumber_16 : decode cX6_writeNumber 16 = .ok (.if_icmp .le 14, 3) := by decide +kernel
theorem dX6_writeNumber_19 : decode cX6_writeNumber 19 = .ok (.iload_n 3, 1) := by decide +kernel
theorem dX6_writeNumber_20 : decode cX6_writeNumber 20 = .ok (.bipush 10, 2) := by decide +kernel
theorem dX6_writeNumber_22 : decode cX6_writeNumber 22 = .ok (.imul, 1) := by decide +kernel
theorem dX6_writeNumber_23 : decode cX6_writeNumber 23 = .ok (.istore_n 3, 1) := by decide +kernel
theorem dX6_writeNumber_24 : decode cX6_writeNumber 24 = .ok (.iinc 4 1, 3) := by decide +kernel
theorem dX6_writeNumber_27 : decode cX6_writeNumber 27 = .ok (.goto (-22), 3) := by decide +kernel
theorem dX6_writeNumber_30 : decode cX6_writeNumber 30 = .ok (.iload_n 3, 1) := by decide +kernel
theorem dX6_writeNumber_31 : decode cX6_writeNumber 31 = .ok (.ifCond .le 24, 3) := by decide +kernel
theorem dX6_writeNumber_34 : decode cX6_writeNumber 34 = .ok (.aload_n 0, 1) := by decide +kernel
theorem dX6_writeNumber_35 : decode cX6_writeNumber 35 = .ok (.bipush 48, 2) := by decide +kernel
theorem dX6_writeNumber_37 : decode cX6_writeNumber 37 = .ok (.iload_n 1, 1) := by decide +kernel
theorem dX6_writeNumber_38 : decode cX6_writeNumber 38 = .ok (.iload_n 3, 1) := by decide +kernel
theorem dX6_writeNumber_39 : decode cX6_writeNumber 39 = .ok (.idiv, 1) := by decide +kernel
theorem dX6_writeNumber_40 : decode cX6_writeNumber 40 = .ok (.bipush 10, 2) := by decide +kernel
theorem dX6_writeNumber_42 : decode cX6_writeNumber 42 = .ok (.irem, 1) := by decide +kernel
theorem dX6_writeNumber_43 : decode cX6_writeNumber 43 = .ok (.iadd, 1) := by decide +kernel
theorem dX6_writeNumber_44 : decode cX6_writeNumber 44 = .ok (.invokevirtual 165, 3) := by decide +kernel
theorem dX6_writeNumber_47 : decode cX6_writeNumber 47 = .ok (.iload_n 3, 1) := by decide +kernel
theorem dX6_writeNumber_48 : decode cX6_writeNumber 48 = .ok (.bipush 10, 2) := by decide +kernel
theorem dX6_writeNumber_50 : decode cX6_writeNumber 50 = .ok (.idiv, 1) := by decide +kernel
theorem dX6_writeNumber_51 : decode cX6_writeNumber 51 = .ok (.istore_n 3, 1) := by decide +kernel
theorem dX6_writeNumber_52 : decode cX6_writeNumber 52 = .ok (.goto (-22), 3) := by decide +kernel
theorem dX6_writeNumber_55 : decode cX6_writeNumber 55 = .ok (.return_, 1) := by decide +kernel
set_option maxRecDepth 20000 in
theorem ggX6_writeToken_X6_writeWord : GoodIn wsX6_writeToken wsX6_writeWord := goodIn_r _ [5, 6, 7, 8, 9, 4, 10, 11, 12, 26, 27, 28, 29, 30, 31, 32, 33, 34, 35, 36, 37, 38, 39] (by decide +kernel) (by decide +kernel)
set_option maxRecDepth 20000 in
theorem gX6_writeToken_X6_writeWord : GoodIn wsX6_writeToken (wsV RX6 168 RX6 yX6_writeWord wsX6_writeWord) := goodIn_app (goodIn_of _ (by decide +kernel)) ggX6_writeToken_X6_writeWord
set_option maxRecDepth 20000 in
theorem ggX6_writeToken_X6_write : GoodIn wsX6_writeToken wsX6_write := goodIn_r _ [10, 11, 12, 26, 27, 28, 29, 30, 31, 32, 33, 34, 35, 36, 37, 38, 39] (by decide +kernel) (by decide +kernel)
set_option maxRecDepth 20000 in
theorem gX6_writeToken_X6_write : GoodIn wsX6_writeToken (wsV RX6 165 RX6 yX6_write wsX6_write) := goodIn_app (goodIn_of _ (by decide +kernel)) ggX6_writeToken_X6_write
set_option maxRecDepth 20000 in
theorem ggX6_writeToken_X6_writeNumber : GoodIn wsX6_writeToken wsX6_writeNumber := goodIn_r _ [16, 7, 8, 9, 4, 10, 11, 12, 26, 27, 28, 29, 30, 31, 32, 33, 34, 35, 36, 37, 38, 39] (by decide +kernel) (by decide +kernel)
set_option maxRecDepth 20000 in
theorem gX6_writeToken_X6_writeNumber : GoodIn wsX6_writeToken (wsV RX6 171 RX6 yX6_writeNumber wsX6_writeNumber) := goodIn_app (goodIn_of _ (by decide +kernel)) ggX6_writeToken_X6_writeNumber
set_option maxRecDepth 20000 in
theorem ggX6_writeToken_X6_codeOf : GoodIn wsX6_writeToken wsX6_codeOf := goodIn_r _ [19, 20, 21, 4, 22, 23, 24, 25] (by decide +kernel) (by decide +kernel)
set_option maxRecDepth 20000 in
theorem gX6_writeToken_X6_codeOf : GoodIn wsX6_writeToken (va_wsS RX6 65 yX6_codeOf wsX6_codeOf) := goodIn_app (goodIn_of _ (by decide +kernel)) ggX6_writeToken_X6_codeOf
theorem dX6_writeToken_0 : decode cX6_writeToken 0 = .ok (.iload_n 1, 1) := by decide +kernel
theorem dX6_writeToken_1 : decode cX6_writeToken 1 = .ok (.ifCond .ne 11, 3) := by decide +kernel
theorem dX6_writeToken_4 : decode cX6_writeToken 4 = .ok (.aload_n 0, 1) := by decide +kernel
theorem dX6_writeToken_5 : decode cX6_writeToken 5 = .ok (.iload_n 2, 1) := by decide +kernel
theorem dX6_writeToken_6 : decode cX6_writeToken 6 = .ok (.invokevirtual 168, 3) := by decide +kernel
theorem dX6_writeToken_9 : decode cX6_writeToken 9 = .ok (.goto 84, 3) := by decide +kernel
theorem dX6_writeToken_12 : decode cX6_writeToken 12 = .ok (.iload_n 1, 1) := by decide +kernel
theorem dX6_writeToken_13 : decode cX6_writeToken 13 = .ok (.iconst 1, 1) := by decide +kernel
theorem dX6_writeToken_14 : decode cX6_writeToken 14 = .ok (.if_icmp .ne 31, 3) := by decide +kernel
theorem dX6_writeToken_17 : decode cX6_writeToken 17 = .ok (.iload_n 2, 1) := by decide +kernel
theorem dX6_writeToken_18 : decode cX6_writeToken 18 = .ok (.ifCond .ge 9, 3) := by decide +kernel
theorem dX6_writeToken_21 : decode cX6_writeToken 21 = .ok (.aload_n 0, 1) := by decide +kernel
theorem dX6_writeToken_22 : decode cX6_writeToken 22 = .ok (.bipush 45, 2) := by decide +kernel
theorem dX6_writeToken_24 : decode cX6_writeToken 24 = .ok (.invokevirtual 165, 3) := by decide +kernel
theorem dX6_writeToken_27 : decode cX6_writeToken 27 = .ok (.aload_n 0, 1) := by decide +kernel
theorem dX6_writeToken_28 : decode cX6_writeToken 28 = .ok (.iload_n 2, 1) := by decide +kernel
theorem dX6_writeToken_29 : decode cX6_writeToken 29 = .ok (.ifCond .ge 8, 3) := by decide +kernel
theorem dX6_writeToken_32 : decode cX6_writeToken 32 = .ok (.iload_n 2, 1) := by decide +kernel
theorem dX6_writeToken_33 : decode cX6_writeToken 33 = .ok (.ineg, 1) := by decide +kernel
theorem dX6_writeToken_34 : decode cX6_writeToken 34 = .ok (.goto 4, 3) := by decide +kernel
theorem dX6_writeToken_37 : decode cX6_writeToken 37 = .ok (.iload_n 2, 1) := by decide +kernel
theorem dX6_writeToken_38 : decode cX6_writeToken 38 = .ok (.iconst 1, 1) := by decide +kernel
theorem dX6_writeToken_39 : decode cX6_writeToken 39 = .ok (.invokevirtual 171, 3) := by decide +kernel
theorem dX6_writeToken_42 : decode cX6_writeToken 42 = .ok (.goto 51, 3) := by decide +kernel
theorem dX6_writeToken_45 : decode cX6_writeToken 45 = .ok (.iload_n 2, 1) := by decide +kernel
theorem dX6_writeToken_46 : decode cX6_writeToken 46 = .ok (.invokestatic 65, 3) := by decide +kernel
theorem dX6_writeToken_49 : decode cX6_writeToken 49 = .ok (.istore_n 3, 1) := by decide +kernel
theorem dX6_writeToken_50 : decode cX6_writeToken 50 = .ok (.aload_n 0, 1) := by decide +kernel
theorem dX6_writeToken_51 : decode cX6_writeToken 51 = .ok (.iload_n 3, 1) := by decide +kernel
theorem dX6_writeToken_52 : decode cX6_writeToken 52 = .ok (.sipush 10000, 3) := by decide +kernel
theorem dX6_writeToken_55 : decode cX6_writeToken 55 = .ok (.idiv, 1) := by decide +kernel
theorem dX6_writeToken_56 : decode cX6_writeToken 56 = .ok (.iconst 4, 1) := by decide +kernel
theorem dX6_writeToken_57 : decode cX6_writeToken 57 = .ok (.invokevirtual 171, 3) := by decide +kernel
theorem dX6_writeToken_60 : decode cX6_writeToken 60 = .ok (.aload_n 0, 1) := by decide +kernel
theorem dX6_writeToken_61 : decode cX6_writeToken 61 = .ok (.bipush 45, 2) := by decide +kernel
theorem dX6_writeToken_63 : decode cX6_writeToken 63 = .ok (.invokevirtual 165, 3) := by decide +kernel
theorem dX6_writeToken_66 : decode cX6_writeToken 66 = .ok (.aload_n 0, 1) := by decide +kernel
theorem dX6_writeToken_67 : decode cX6_writeToken 67 = .ok (.iload_n 3, 1) := by decide +kernel
theorem dX6_writeToken_68 : decode cX6_writeToken 68 = .ok (.bipush 100, 2) := by decide +kernel
theorem dX6_writeToken_70 : decode cX6_writeToken 70 = .ok (.idiv, 1) := by decide +kernel
theorem dX6_writeToken_71 : decode cX6_writeToken 71 = .ok (.bipush 100, 2) := by decide +kernel
theorem dX6_writeToken_73 : decode cX6_writeToken 73 = .ok (.irem, 1) := by decide +kernel
theorem dX6_writeToken_74 : decode cX6_writeToken 74 = .ok (.iconst 2, 1) := by decide +kernel
theorem dX6_writeToken_75 : decode cX6_writeToken 75 = .ok (.invokevirtual 171, 3) := by decide +kernel
theorem dX6_writeToken_78 : decode cX6_writeToken 78 = .ok (.aload_n 0, 1) := by decide +kernel
theorem dX6_writeToken_79 : decode cX6_writeToken 79 = .ok (.bipush 45, 2) := by decide +kernel
theorem dX6_writeToken_81 : decode cX6_writeToken 81 = .ok (.invokevirtual 165, 3) := by decide +kernel
theorem dX6_writeToken_84 : decode cX6_writeToken 84 = .ok (.aload_n 0, 1) := by decide +kernel
theorem dX6_writeToken_85 : decode cX6_writeToken 85 = .ok (.iload_n 3, 1) := by decide +kernel
theorem dX6_writeToken_86 : decode cX6_writeToken 86 = .ok (.bipush 100, 2) := by decide +kernel
theorem dX6_writeToken_88 : decode cX6_writeToken 88 = .ok (.irem, 1) := by decide +kernel
theorem dX6_writeToken_89 : decode cX6_writeToken 89 = .ok (.iconst 2, 1) := by decide +kernel
theorem dX6_writeToken_90 : decode cX6_writeToken 90 = .ok (.invokevirtual 171, 3) := by decide +kernel
theorem dX6_writeToken_93 : decode cX6_writeToken 93 = .ok (.return_, 1) := by decide +kernel
set_option maxRecDepth 20000 in
theorem ggX6_writeSentence_X6_of : GoodIn wsX6_writeSentence wsX6_of := goodIn_r _ [6, 7, 35, 36, 37, 38, 39, 40, 41, 42, 43, 44, 45, 46, 47, 48] (by decide +kernel) (by decide +kernel)
set_option maxRecDepth 20000 in
theorem gX6_writeSentence_X6_of : GoodIn wsX6_writeSentence (wsV RX6 97 RX6 yX6_of wsX6_of) := goodIn_app (goodIn_of _ (by decide +kernel)) ggX6_writeSentence_X6_of
set_option maxRecDepth 20000 in
theorem ggX6_writeSentence_X6_write : GoodIn wsX6_writeSentence wsX6_write := goodIn_r _ [11, 12, 1, 35, 36, 37, 38, 39, 40, 41, 42, 43, 44, 45, 46, 47, 48] (by decide +kernel) (by decide +kernel)
set_option maxRecDepth 20000 in
theorem gX6_writeSentence_X6_write : GoodIn wsX6_writeSentence (wsV RX6 165 RX6 yX6_write wsX6_write) := goodIn_app (goodIn_of _ (by decide +kernel)) ggX6_writeSentence_X6_write
set_option maxRecDepth 20000 in
theorem ggX6_writeSentence_X6_writeToken : GoodIn wsX6_writeSentence wsX6_writeToken := goodIn_r _ [16, 17, 18, 19, 5, 20, 21, 8, 9, 10, 11, 12, 1, 22, 23, 24, 25, 26, 27, 28, 29, 30, 31, 32, 33, 34, 35, 36, 37, 38, 39, 40, 41, 42, 43, 44, 45, 46, 47, 48] (by decide +kernel) (by decide +kernel)
set_option maxRecDepth 20000 in
theorem gX6_writeSentence_X6_writeToken : GoodIn wsX6_writeSentence (wsV RX6 174 RX6 yX6_writeToken wsX6_writeToken) := goodIn_app (goodIn_of _ (by decide +kernel)) ggX6_writeSentence_X6_writeToken
theorem dX6_writeSentence_0 : decode cX6_writeSentence 0 = .ok (.aload_n 0, 1) := by decide +kernel
theorem dX6_writeSentence_1 : decode cX6_writeSentence 1 = .ok (.iconst 0, 1) := by decide +kernel
theorem dX6_writeSentence_2 : decode cX6_writeSentence 2 = .ok (.putfield 162, 3) := by decide +kernel
theorem dX6_writeSentence_5 : decode cX6_writeSentence 5 = .ok (.iconst 0, 1) := by decide +kernel
theorem dX6_writeSentence_6 : decode cX6_writeSentence 6 = .ok (.istore_n 2, 1) := by decide +kernel
theorem dX6_writeSentence_7 : decode cX6_writeSentence 7 = .ok (.iload_n 2, 1) := by decide +kernel
theorem dX6_writeSentence_8 : decode cX6_writeSentence 8 = .ok (.aload_n 0, 1) := by decide +kernel
theorem dX6_writeSentence_9 : decode cX6_writeSentence 9 = .ok (.iload_n 1, 1) := by decide +kernel
theorem dX6_writeSentence_10 : decode cX6_writeSentence 10 = .ok (.iconst 0, 1) := by decide +kernel
theorem dX6_writeSentence_11 : decode cX6_writeSentence 11 = .ok (.invokevirtual 97, 3) := by decide +kernel
theorem dX6_writeSentence_14 : decode cX6_writeSentence 14 = .ok (.if_icmp .ge 40, 3) := by decide +kernel
theorem dX6_writeSentence_17 : decode cX6_writeSentence 17 = .ok (.iload_n 2, 1) := by decide +kernel
theorem dX6_writeSentence_18 : decode cX6_writeSentence 18 = .ok (.ifCond .le 9, 3) := by decide +kernel
theorem dX6_writeSentence_21 : decode cX6_writeSentence 21 = .ok (.aload_n 0, 1) := by decide +kernel
theorem dX6_writeSentence_22 : decode cX6_writeSentence 22 = .ok (.bipush 32, 2) := by decide +kernel
theorem dX6_writeSentence_24 : decode cX6_writeSentence 24 = .ok (.invokevirtual 165, 3) := by decide +kernel
theorem dX6_writeSentence_27 : decode cX6_writeSentence 27 = .ok (.aload_n 0, 1) := by decide +kernel
theorem dX6_writeSentence_28 : decode cX6_writeSentence 28 = .ok (.aload_n 0, 1) := by decide +kernel
theorem dX6_writeSentence_29 : decode cX6_writeSentence 29 = .ok (.iload_n 1, 1) := by decide +kernel
theorem dX6_writeSentence_30 : decode cX6_writeSentence 30 = .ok (.iconst 1, 1) := by decide +kernel
theorem dX6_writeSentence_31 : decode cX6_writeSentence 31 = .ok (.iload_n 2, 1) := by decide +kernel
theorem dX6_writeSentence_32 : decode cX6_writeSentence 32 = .ok (.iadd, 1) := by decide +kernel
theorem dX6_writeSentence_33 : decode cX6_writeSentence 33 = .ok (.invokevirtual 97, 3) := by decide +kernel
theorem dX6_writeSentence_36 : decode cX6_writeSentence 36 = .ok (.aload_n 0, 1) := by decide +kernel
theorem dX6_writeSentence_37 : decode cX6_writeSentence 37 = .ok (.iload_n 1, 1) := by decide +kernel
theorem dX6_writeSentence_38 : decode cX6_writeSentence 38 = .ok (.bipush 25, 2) := by decide +kernel
theorem dX6_writeSentence_40 : decode cX6_writeSentence 40 = .ok (.iload_n 2, 1) := by decide +kernel
theorem dX6_writeSentence_41 : decode cX6_writeSentence 41 = .ok (.iadd, 1) := by decide +kernel
theorem dX6_writeSentence_42 : decode cX6_writeSentence 42 = .ok (.invokevirtual 97, 3) := by decide +kernel
theorem dX6_writeSentence_45 : decode cX6_writeSentence 45 = .ok (.invokevirtual 174, 3) := by decide +kernel
theorem dX6_writeSentence_48 : decode cX6_writeSentence 48 = .ok (.iinc 2 1, 3) := by decide +kernel
theorem dX6_writeSentence_51 : decode cX6_writeSentence 51 = .ok (.goto (-44), 3) := by decide +kernel
theorem dX6_writeSentence_54 : decode cX6_writeSentence 54 = .ok (.aload_n 0, 1) := by decide +kernel
theorem dX6_writeSentence_55 : decode cX6_writeSentence 55 = .ok (.bipush 46, 2) := by decide +kernel
theorem dX6_writeSentence_57 : decode cX6_writeSentence 57 = .ok (.invokevirtual 165, 3) := by decide +kernel
theorem dX6_writeSentence_60 : decode cX6_writeSentence 60 = .ok (.return_, 1) := by decide +kernel
set_option maxRecDepth 20000 in
theorem ggX6_length_X6_isSentence : GoodIn wsX6_length wsX6_isSentence := goodIn_r _ [7, 8, 9, 10, 6, 11, 47, 48, 49, 50, 51, 52, 53, 54, 55, 56, 57, 58, 59, 60] (by decide +kernel) (by decide +kernel)
set_option maxRecDepth 20000 in
theorem gX6_length_X6_isSentence : GoodIn wsX6_length (wsV RX6 142 RX6 yX6_isSentence wsX6_isSentence) := goodIn_app (goodIn_of _ (by decide +kernel)) ggX6_length_X6_isSentence
set_option maxRecDepth 20000 in
theorem ggX6_length_X6_writeSentence : GoodIn wsX6_length wsX6_writeSentence := goodIn_r _ [15, 2, 16, 17, 18, 6, 19, 8, 20, 21, 22, 23, 24, 25, 26, 27, 28, 29, 30, 31, 32, 33, 34, 35, 36, 37, 38, 39, 40, 41, 42, 43, 44, 45, 46, 47, 48, 49, 50, 51, 52, 53, 54, 55, 56, 57, 58, 59, 60] (by decide +kernel) (by decide +kernel)
set_option maxRecDepth 20000 in
theorem gX6_length_X6_writeSentence : GoodIn wsX6_length (wsV RX6 177 RX6 yX6_writeSentence wsX6_writeSentence) := goodIn_app (goodIn_of _ (by decide +kernel)) ggX6_length_X6_writeSentence
theorem dX6_length_0 : decode cX6_length 0 = .ok (.aload_n 0, 1) := by decide +kernel
theorem dX6_length_1 : decode cX6_length 1 = .ok (.iload_n 1, 1) := by decide +kernel
theorem dX6_length_2 : decode cX6_length 2 = .ok (.invokevirtual 142, 3) := by decide +kernel
theorem dX6_length_5 : decode cX6_length 5 = .ok (.ifCond .ne 6, 3) := by decide +kernel
theorem dX6_length_8 : decode cX6_length 8 = .ok (.ldc 145, 2) := by decide +kernel
theorem dX6_length_10 : decode cX6_length 10 = .ok (.ireturn, 1) := by decide +kernel
theorem dX6_length_11 : decode cX6_length 11 = .ok (.aload_n 0, 1) := by decide +kernel
theorem dX6_length_12 : decode cX6_length 12 = .ok (.iload_n 1, 1) := by decide +kernel
theorem dX6_length_13 : decode cX6_length 13 = .ok (.invokevirtual 177, 3) := by decide +kernel
theorem dX6_length_16 : decode cX6_length 16 = .ok (.aload_n 0, 1) := by decide +kernel
theorem dX6_length_17 : decode cX6_length 17 = .ok (.getfield 162, 3) := by decide +kernel
theorem dX6_length_20 : decode cX6_length 20 = .ok (.ireturn, 1) := by decide +kernel
set_option maxRecDepth 20000 in
theorem ggX6_character_X6_isSentence : GoodIn wsX6_character wsX6_isSentence := goodIn_r _ [9, 10, 11, 12, 8, 13, 48, 49, 50, 51, 52, 53, 54, 55, 56, 57, 58, 59, 60, 61] (by decide +kernel) (by decide +kernel)
set_option maxRecDepth 20000 in
theorem gX6_character_X6_isSentence : GoodIn wsX6_character (wsV RX6 142 RX6 yX6_isSentence wsX6_isSentence) := goodIn_app (goodIn_of _ (by decide +kernel)) ggX6_character_X6_isSentence
set_option maxRecDepth 20000 in
theorem ggX6_character_X6_writeSentence : GoodIn wsX6_character wsX6_writeSentence := goodIn_r _ [17, 2, 18, 19, 20, 8, 21, 10, 22, 23, 24, 25, 3, 26, 27, 28, 29, 30, 31, 32, 33, 34, 35, 36, 37, 38, 39, 40, 41, 42, 43, 44, 45, 46, 47, 48, 49, 50, 51, 52, 53, 54, 55, 56, 57, 58, 59, 60, 61] (by decide +kernel) (by decide +kernel)
set_option maxRecDepth 20000 in
theorem gX6_character_X6_writeSentence : GoodIn wsX6_character (wsV RX6 177 RX6 yX6_writeSentence wsX6_writeSentence) := goodIn_app (goodIn_of _ (by decide +kernel)) ggX6_character_X6_writeSentence
set_option maxRecDepth 20000 in
theorem ggX6_character_X6_in : GoodIn wsX6_character wsX6_in := goodIn_r _ [13] (by decide +kernel) (by decide +kernel)
set_option maxRecDepth 20000 in
theorem gX6_character_X6_in : GoodIn wsX6_character (va_wsS RX6 42 yX6_in wsX6_in) := goodIn_app (goodIn_of _ (by decide +kernel)) ggX6_character_X6_in
theorem dX6_character_0 : decode cX6_character 0 = .ok (.aload_n 0, 1) := by decide +kernel
theorem dX6_character_1 : decode cX6_character 1 = .ok (.iload_n 1, 1) := by decide +kernel
theorem dX6_character_2 : decode cX6_character 2 = .ok (.invokevirtual 142, 3) := by decide +kernel
theorem dX6_character_5 : decode cX6_character 5 = .ok (.ifCond .ne 6, 3) := by decide +kernel
theorem dX6_character_8 : decode cX6_character 8 = .ok (.ldc 145, 2) := by decide +kernel
theorem dX6_character_10 : decode cX6_character 10 = .ok (.ireturn, 1) := by decide +kernel
theorem dX6_character_11 : decode cX6_character 11 = .ok (.aload_n 0, 1) := by decide +kernel
theorem dX6_character_12 : decode cX6_character 12 = .ok (.iload_n 1, 1) := by decide +kernel
theorem dX6_character_13 : decode cX6_character 13 = .ok (.invokevirtual 177, 3) := by decide +kernel
theorem dX6_character_16 : decode cX6_character 16 = .ok (.iload_n 2, 1) := by decide +kernel
theorem dX6_character_17 : decode cX6_character 17 = .ok (.iconst 0, 1) := by decide +kernel
theorem dX6_character_18 : decode cX6_character 18 = .ok (.aload_n 0, 1) := by decide +kernel
theorem dX6_character_19 : decode cX6_character 19 = .ok (.getfield 162, 3) := by decide +kernel
theorem dX6_character_22 : decode cX6_character 22 = .ok (.iconst 1, 1) := by decide +kernel
theorem dX6_character_23 : decode cX6_character 23 = .ok (.isub, 1) := by decide +kernel
theorem dX6_character_24 : decode cX6_character 24 = .ok (.invokestatic 42, 3) := by decide +kernel
theorem dX6_character_27 : decode cX6_character 27 = .ok (.ifCond .eq 12, 3) := by decide +kernel
theorem dX6_character_30 : decode cX6_character 30 = .ok (.aload_n 0, 1) := by decide +kernel
theorem dX6_character_31 : decode cX6_character 31 = .ok (.getfield 25, 3) := by decide +kernel
theorem dX6_character_34 : decode cX6_character 34 = .ok (.iload_n 2, 1) := by decide +kernel
theorem dX6_character_35 : decode cX6_character 35 = .ok (.iaload, 1) := by decide +kernel
theorem dX6_character_36 : decode cX6_character 36 = .ok (.goto 5, 3) := by decide +kernel
theorem dX6_character_39 : decode cX6_character 39 = .ok (.ldc 64, 2) := by decide +kernel
theorem dX6_character_41 : decode cX6_character 41 = .ok (.ireturn, 1) := by decide +kernel
set_option maxRecDepth 20000 in
theorem ggX6_contains_X6_of : GoodIn wsX6_contains wsX6_of := goodIn_r _ [6, 1, 10, 11, 12, 13, 14, 15, 16, 17, 18, 19, 20, 21, 22, 23] (by decide +kernel) (by decide +kernel)
set_option maxRecDepth 20000 in
theorem gX6_contains_X6_of : GoodIn wsX6_contains (wsV RX6 97 RX6 yX6_of wsX6_of) := goodIn_app (goodIn_of _ (by decide +kernel)) ggX6_contains_X6_of
set_option maxRecDepth 20000 in
theorem ggX6_contains_X6_in : GoodIn wsX6_contains wsX6_in := goodIn_r _ [9] (by decide +kernel) (by decide +kernel)
set_option maxRecDepth 20000 in
theorem gX6_contains_X6_in : GoodIn wsX6_contains (va_wsS RX6 42 yX6_in wsX6_in) := goodIn_app (goodIn_of _ (by decide +kernel)) ggX6_contains_X6_in
theorem dX6_contains_0 : decode cX6_contains 0 = .ok (.iconst 1, 1) := by decide +kernel
theorem dX6_contains_1 : decode cX6_contains 1 = .ok (.istore_n 2, 1) := by decide +kernel
theorem dX6_contains_2 : decode cX6_contains 2 = .ok (.iconst 0, 1) := by decide +kernel
theorem dX6_contains_3 : decode cX6_contains 3 = .ok (.istore_n 3, 1) := by decide +kernel
theorem dX6_contains_4 : decode cX6_contains 4 = .ok (.iload_n 3, 1) := by decide +kernel
theorem dX6_contains_5 : decode cX6_contains 5 = .ok (.bipush 7, 2) := by decide +kernel
theorem dX6_contains_7 : decode cX6_contains 7 = .ok (.if_icmp .ge 49, 3) := by decide +kernel
theorem dX6_contains_10 : decode cX6_contains 10 = .ok (.iload_n 2, 1) := by decide +kernel
theorem dX6_contains_11 : decode cX6_contains 11 = .ok (.ifCond .eq 37, 3) := by decide +kernel
theorem dX6_contains_14 : decode cX6_contains 14 = .ok (.aload_n 0, 1) := by decide +kernel
theorem dX6_contains_15 : decode cX6_contains 15 = .ok (.getfield 7, 3) := by decide +kernel
theorem dX6_contains_18 : decode cX6_contains 18 = .ok (.iload_n 3, 1) := by decide +kernel
theorem dX6_contains_19 : decode cX6_contains 19 = .ok (.iaload, 1) := by decide +kernel
theorem dX6_contains_20 : decode cX6_contains 20 = .ok (.aload_n 0, 1) := by decide +kernel
theorem dX6_contains_21 : decode cX6_contains 21 = .ok (.iload_n 1, 1) := by decide +kernel
theorem dX6_contains_22 : decode cX6_contains 22 = .ok (.bipush 52, 2) := by decide +kernel
theorem dX6_contains_24 : decode cX6_contains 24 = .ok (.iload_n 3, 1) := by decide +kernel
theorem dX6_contains_25 : decode cX6_contains 25 = .ok (.iadd, 1) := by decide +kernel
theorem dX6_contains_26 : decode cX6_contains 26 = .ok (.invokevirtual 97, 3) := by decide +kernel
theorem dX6_contains_29 : decode cX6_contains 29 = .ok (.aload_n 0, 1) := by decide +kernel
theorem dX6_contains_30 : decode cX6_contains 30 = .ok (.iload_n 1, 1) := by decide +kernel
theorem dX6_contains_31 : decode cX6_contains 31 = .ok (.bipush 59, 2) := by decide +kernel
theorem dX6_contains_33 : decode cX6_contains 33 = .ok (.iload_n 3, 1) := by decide +kernel
theorem dX6_contains_34 : decode cX6_contains 34 = .ok (.iadd, 1) := by decide +kernel
theorem dX6_contains_35 : decode cX6_contains 35 = .ok (.invokevirtual 97, 3) := by decide +kernel
theorem dX6_contains_38 : decode cX6_contains 38 = .ok (.invokestatic 42, 3) := by decide +kernel
theorem dX6_contains_41 : decode cX6_contains 41 = .ok (.ifCond .eq 7, 3) := by decide +kernel
theorem dX6_contains_44 : decode cX6_contains 44 = .ok (.iconst 1, 1) := by decide +kernel
theorem dX6_contains_45 : decode cX6_contains 45 = .ok (.goto 4, 3) := by decide +kernel
theorem dX6_contains_48 : decode cX6_contains 48 = .ok (.iconst 0, 1) := by decide +kernel
theorem dX6_contains_49 : decode cX6_contains 49 = .ok (.istore_n 2, 1) := by decide +kernel
theorem dX6_contains_50 : decode cX6_contains 50 = .ok (.iinc 3 1, 3) := by decide +kernel
theorem dX6_contains_53 : decode cX6_contains 53 = .ok (.goto (-49), 3) := by decide +kernel
theorem dX6_contains_56 : decode cX6_contains 56 = .ok (.iload_n 2, 1) := by decide +kernel
theorem dX6_contains_57 : decode cX6_contains 57 = .ok (.ireturn, 1) := by decide +kernel
set_option maxRecDepth 20000 in
theorem ggX6_isInside_X6_of : GoodIn wsX6_isInside wsX6_of := goodIn_r _ [5, 6, 7, 8, 9, 10, 11, 12, 13, 14, 15, 16, 17, 18, 19, 20] (by decide +kernel) (by decide +kernel)
set_option maxRecDepth 20000 in
theorem gX6_isInside_X6_of : GoodIn wsX6_isInside (wsV RX6 97 RX6 yX6_of wsX6_of) := goodIn_app (goodIn_of _ (by decide +kernel)) ggX6_isInside_X6_of
theorem dX6_isInside_0 : decode cX6_isInside 0 = .ok (.iconst 1, 1) := by decide +kernel
theorem dX6_isInside_1 : decode cX6_isInside 1 = .ok (.istore_n 3, 1) := by decide +kernel
theorem dX6_isInside_2 : decode cX6_isInside 2 = .ok (.iconst 0, 1) := by decide +kernel
theorem dX6_isInside_3 : decode cX6_isInside 3 = .ok (.istore 4, 2) := by decide +kernel
theorem dX6_isInside_5 : decode cX6_isInside 5 = .ok (.iload 4, 2) := by decide +kernel
theorem dX6_isInside_7 : decode cX6_isInside 7 = .ok (.bipush 7, 2) := by decide +kernel
theorem dX6_isInside_9 : decode cX6_isInside 9 = .ok (.if_icmp .ge 65, 3) := by decide +kernel
theorem dX6_isInside_12 : decode cX6_isInside 12 = .ok (.iload_n 3, 1) := by decide +kernel
theorem dX6_isInside_13 : decode cX6_isInside 13 = .ok (.ifCond .eq 53, 3) := by decide +kernel
theorem dX6_isInside_16 : decode cX6_isInside 16 = .ok (.aload_n 0, 1) := by decide +kernel
theorem dX6_isInside_17 : decode cX6_isInside 17 = .ok (.iload_n 1, 1) := by decide +kernel
theorem dX6_isInside_18 : decode cX6_isInside 18 = .ok (.bipush 52, 2) := by decide +kernel
theorem dX6_isInside_20 : decode cX6_isInside 20 = .ok (.iload 4, 2) := by decide +kernel
theorem dX6_isInside_22 : decode cX6_isInside 22 = .ok (.iadd, 1) := by decide +kernel
theorem dX6_isInside_23 : decode cX6_isInside 23 = .ok (.invokevirtual 97, 3) := by decide +kernel
theorem dX6_isInside_26 : decode cX6_isInside 26 = .ok (.aload_n 0, 1) := by decide +kernel
theorem dX6_isInside_27 : decode cX6_isInside 27 = .ok (.iload_n 2, 1) := by decide +kernel
theorem dX6_isInside_28 : decode cX6_isInside 28 = .ok (.bipush 52, 2) := by decide +kernel
theorem dX6_isInside_30 : decode cX6_isInside 30 = .ok (.iload 4, 2) := by decide +kernel
theorem dX6_isInside_32 : decode cX6_isInside 32 = .ok (.iadd, 1) := by decide +kernel
theorem dX6_isInside_33 : decode cX6_isInside 33 = .ok (.invokevirtual 97, 3) := by decide +kernel
theorem dX6_isInside_36 : decode cX6_isInside 36 = .ok (.if_icmp .lt 30, 3) := by decide +kernel
theorem dX6_isInside_39 : decode cX6_isInside 39 = .ok (.aload_n 0, 1) := by decide +kernel
theorem dX6_isInside_40 : decode cX6_isInside 40 = .ok (.iload_n 1, 1) := by decide +kernel
theorem dX6_isInside_41 : decode cX6_isInside 41 = .ok (.bipush 59, 2) := by decide +kernel
theorem dX6_isInside_43 : decode cX6_isInside 43 = .ok (.iload 4, 2) := by decide +kernel
theorem dX6_isInside_45 : decode cX6_isInside 45 = .ok (.iadd, 1) := by decide +kernel
theorem dX6_isInside_46 : decode cX6_isInside 46 = .ok (.invokevirtual 97, 3) := by decide +kernel
theorem dX6_isInside_49 : decode cX6_isInside 49 = .ok (.aload_n 0, 1) := by decide +kernel
theorem dX6_isInside_50 : decode cX6_isInside 50 = .ok (.iload_n 2, 1) := by decide +kernel
theorem dX6_isInside_51 : decode cX6_isInside 51 = .ok (.bipush 59, 2) := by decide +kernel
theorem dX6_isInside_53 : decode cX6_isInside 53 = .ok (.iload 4, 2) := by decide +kernel
theorem dX6_isInside_55 : decode cX6_isInside 55 = .ok (.iadd, 1) := by decide +kernel
theorem dX6_isInside_56 : decode cX6_isInside 56 = .ok (.invokevirtual 97, 3) := by decide +kernel
theorem dX6_isInside_59 : decode cX6_isInside 59 = .ok (.if_icmp .gt 7, 3) := by decide +kernel
theorem dX6_isInside_62 : decode cX6_isInside 62 = .ok (.iconst 1, 1) := by decide +kernel
theorem dX6_isInside_63 : decode cX6_isInside 63 = .ok (.goto 4, 3) := by decide +kernel
theorem dX6_isInside_66 : decode cX6_isInside 66 = .ok (.iconst 0, 1) := by decide +kernel
theorem dX6_isInside_67 : decode cX6_isInside 67 = .ok (.istore_n 3, 1) := by decide +kernel
theorem dX6_isInside_68 : decode cX6_isInside 68 = .ok (.iinc 4 1, 3) := by decide +kernel
theorem dX6_isInside_71 : decode cX6_isInside 71 = .ok (.goto (-66), 3) := by decide +kernel
theorem dX6_isInside_74 : decode cX6_isInside 74 = .ok (.iload_n 3, 1) := by decide +kernel
theorem dX6_isInside_75 : decode cX6_isInside 75 = .ok (.ireturn, 1) := by decide +kernel
set_option maxRecDepth 20000 in
theorem ggX6_isStrictly_X6_isInside : GoodIn wsX6_isStrictly wsX6_isInside := goodIn_r _ [5, 6, 7, 8, 4, 9, 10, 11, 12, 13, 14, 15, 16, 17, 18, 19, 20, 21, 22, 23, 24] (by decide +kernel) (by decide +kernel)
set_option maxRecDepth 20000 in
theorem gX6_isStrictly_X6_isInside : GoodIn wsX6_isStrictly (wsV RX6 180 RX6 yX6_isInside wsX6_isInside) := goodIn_app (goodIn_of _ (by decide +kernel)) ggX6_isStrictly_X6_isInside
theorem dX6_isStrictly_0 : decode cX6_isStrictly 0 = .ok (.aload_n 0, 1) := by decide +kernel
theorem dX6_isStrictly_1 : decode cX6_isStrictly 1 = .ok (.iload_n 1, 1) := by decide +kernel
theorem dX6_isStrictly_2 : decode cX6_isStrictly 2 = .ok (.iload_n 2, 1) := by decide +kernel
theorem dX6_isStrictly_3 : decode cX6_isStrictly 3 = .ok (.invokevirtual 180, 3) := by decide +kernel
theorem dX6_isStrictly_6 : decode cX6_isStrictly 6 = .ok (.ifCond .eq 16, 3) := by decide +kernel
theorem dX6_isStrictly_9 : decode cX6_isStrictly 9 = .ok (.aload_n 0, 1) := by decide +kernel
theorem dX6_isStrictly_10 : decode cX6_isStrictly 10 = .ok (.iload_n 2, 1) := by decide +kernel
theorem dX6_isStrictly_11 : decode cX6_isStrictly 11 = .ok (.iload_n 1, 1) := by decide +kernel
theorem dX6_isStrictly_12 : decode cX6_isStrictly 12 = .ok (.invokevirtual 180, 3) := by decide +kernel
theorem dX6_isStrictly_15 : decode cX6_isStrictly 15 = .ok (.ifCond .ne 7, 3) := by decide +kernel
theorem dX6_isStrictly_18 : decode cX6_isStrictly 18 = .ok (.iconst 1, 1) := by decide +kernel
theorem dX6_isStrictly_19 : decode cX6_isStrictly 19 = .ok (.goto 4, 3) := by decide +kernel
theorem dX6_isStrictly_22 : decode cX6_isStrictly 22 = .ok (.iconst 0, 1) := by decide +kernel
theorem dX6_isStrictly_23 : decode cX6_isStrictly 23 = .ok (.ireturn, 1) := by decide +kernel
set_option maxRecDepth 20000 in
theorem ggX6_applies_X6_of : GoodIn wsX6_applies wsX6_of := goodIn_r _ [6, 7, 15, 16, 17, 18, 19, 20, 21, 22, 23, 24, 25, 26, 27, 28] (by decide +kernel) (by decide +kernel)
set_option maxRecDepth 20000 in
theorem gX6_applies_X6_of : GoodIn wsX6_applies (wsV RX6 97 RX6 yX6_of wsX6_of) := goodIn_app (goodIn_of _ (by decide +kernel)) ggX6_applies_X6_of
set_option maxRecDepth 20000 in
theorem ggX6_applies_X6_contains : GoodIn wsX6_applies wsX6_contains := goodIn_r _ [11, 7, 2, 3, 4, 5, 6, 12, 13, 14, 15, 16, 17, 18, 19, 20, 21, 22, 23, 24, 25, 26, 27, 28] (by decide +kernel) (by decide +kernel)
set_option maxRecDepth 20000 in
theorem gX6_applies_X6_contains : GoodIn wsX6_applies (wsV RX6 183 RX6 yX6_contains wsX6_contains) := goodIn_app (goodIn_of _ (by decide +kernel)) ggX6_applies_X6_contains
theorem dX6_applies_0 : decode cX6_applies 0 = .ok (.iload_n 1, 1) := by decide +kernel
theorem dX6_applies_1 : decode cX6_applies 1 = .ok (.aload_n 0, 1) := by decide +kernel
theorem dX6_applies_2 : decode cX6_applies 2 = .ok (.getfield 29, 3) := by decide +kernel
theorem dX6_applies_5 : decode cX6_applies 5 = .ok (.if_icmp .eq 26, 3) := by decide +kernel
theorem dX6_applies_8 : decode cX6_applies 8 = .ok (.aload_n 0, 1) := by decide +kernel
theorem dX6_applies_9 : decode cX6_applies 9 = .ok (.iload_n 1, 1) := by decide +kernel
theorem dX6_applies_10 : decode cX6_applies 10 = .ok (.bipush 49, 2) := by decide +kernel
theorem dX6_applies_12 : decode cX6_applies 12 = .ok (.invokevirtual 97, 3) := by decide +kernel
theorem dX6_applies_15 : decode cX6_applies 15 = .ok (.iload_n 2, 1) := by decide +kernel
theorem dX6_applies_16 : decode cX6_applies 16 = .ok (.if_icmp .ne 15, 3) := by decide +kernel
theorem dX6_applies_19 : decode cX6_applies 19 = .ok (.aload_n 0, 1) := by decide +kernel
theorem dX6_applies_20 : decode cX6_applies 20 = .ok (.iload_n 1, 1) := by decide +kernel
theorem dX6_applies_21 : decode cX6_applies 21 = .ok (.invokevirtual 183, 3) := by decide +kernel
theorem dX6_applies_24 : decode cX6_applies 24 = .ok (.ifCond .eq 7, 3) := by decide +kernel
theorem dX6_applies_27 : decode cX6_applies 27 = .ok (.iconst 1, 1) := by decide +kernel
theorem dX6_applies_28 : decode cX6_applies 28 = .ok (.goto 4, 3) := by decide +kernel
theorem dX6_applies_31 : decode cX6_applies 31 = .ok (.iconst 0, 1) := by decide +kernel
theorem dX6_applies_32 : decode cX6_applies 32 = .ok (.ireturn, 1) := by decide +kernel
set_option maxRecDepth 20000 in
theorem ggX6_isReason_X6_applies : GoodIn wsX6_isReason wsX6_applies := goodIn_r _ [6, 7, 8, 9, 10, 5, 11, 1, 12, 13, 14, 15, 16, 17, 18, 27, 28, 29, 30, 31, 32, 33, 34, 35, 36, 37, 38, 39, 40] (by decide +kernel) (by decide +kernel)
set_option maxRecDepth 20000 in
theorem gX6_isReason_X6_applies : GoodIn wsX6_isReason (wsV RX6 186 RX6 yX6_applies wsX6_applies) := goodIn_app (goodIn_of _ (by decide +kernel)) ggX6_isReason_X6_applies
set_option maxRecDepth 20000 in
theorem ggX6_isReason_X6_isStrictly : GoodIn wsX6_isReason wsX6_isStrictly := goodIn_r _ [22, 23, 24, 25, 5, 26, 8, 9, 10, 11, 1, 27, 28, 29, 30, 31, 32, 33, 34, 35, 36, 37, 38, 39, 40] (by decide +kernel) (by decide +kernel)
set_option maxRecDepth 20000 in
theorem gX6_isReason_X6_isStrictly : GoodIn wsX6_isReason (wsV RX6 189 RX6 yX6_isStrictly wsX6_isStrictly) := goodIn_app (goodIn_of _ (by decide +kernel)) ggX6_isReason_X6_isStrictly
theorem dX6_isReason_0 : decode cX6_isReason 0 = .ok (.aload_n 0, 1) := by decide +kernel
theorem dX6_isReason_1 : decode cX6_isReason 1 = .ok (.iload_n 1, 1) := by decide +kernel
theorem dX6_isReason_2 : decode cX6_isReason 2 = .ok (.iload_n 2, 1) := by decide +kernel
theorem dX6_isReason_3 : decode cX6_isReason 3 = .ok (.invokevirtual 186, 3) := by decide +kernel
theorem dX6_isReason_6 : decode cX6_isReason 6 = .ok (.istore_n 3, 1) := by decide +kernel
theorem dX6_isReason_7 : decode cX6_isReason 7 = .ok (.iconst 0, 1) := by decide +kernel
theorem dX6_isReason_8 : decode cX6_isReason 8 = .ok (.istore 4, 2) := by decide +kernel
theorem dX6_isReason_10 : decode cX6_isReason 10 = .ok (.iload 4, 2) := by decide +kernel
theorem dX6_isReason_12 : decode cX6_isReason 12 = .ok (.aload_n 0, 1) := by decide +kernel
theorem dX6_isReason_13 : decode cX6_isReason 13 = .ok (.getfield 7, 3) := by decide +kernel
theorem dX6_isReason_16 : decode cX6_isReason 16 = .ok (.bipush 56, 2) := by decide +kernel
theorem dX6_isReason_18 : decode cX6_isReason 18 = .ok (.iaload, 1) := by decide +kernel
theorem dX6_isReason_19 : decode cX6_isReason 19 = .ok (.if_icmp .ge 39, 3) := by decide +kernel
theorem dX6_isReason_22 : decode cX6_isReason 22 = .ok (.iload_n 3, 1) := by decide +kernel
theorem dX6_isReason_23 : decode cX6_isReason 23 = .ok (.ifCond .eq 35, 3) := by decide +kernel
theorem dX6_isReason_26 : decode cX6_isReason 26 = .ok (.aload_n 0, 1) := by decide +kernel
theorem dX6_isReason_27 : decode cX6_isReason 27 = .ok (.iload 4, 2) := by decide +kernel
theorem dX6_isReason_29 : decode cX6_isReason 29 = .ok (.iload_n 2, 1) := by decide +kernel
theorem dX6_isReason_30 : decode cX6_isReason 30 = .ok (.invokevirtual 186, 3) := by decide +kernel
theorem dX6_isReason_33 : decode cX6_isReason 33 = .ok (.ifCond .eq 13, 3) := by decide +kernel
theorem dX6_isReason_36 : decode cX6_isReason 36 = .ok (.aload_n 0, 1) := by decide +kernel
theorem dX6_isReason_37 : decode cX6_isReason 37 = .ok (.iload 4, 2) := by decide +kernel
theorem dX6_isReason_39 : decode cX6_isReason 39 = .ok (.iload_n 1, 1) := by decide +kernel
theorem dX6_isReason_40 : decode cX6_isReason 40 = .ok (.invokevirtual 189, 3) := by decide +kernel
theorem dX6_isReason_43 : decode cX6_isReason 43 = .ok (.ifCond .ne 7, 3) := by decide +kernel
theorem dX6_isReason_46 : decode cX6_isReason 46 = .ok (.iconst 1, 1) := by decide +kernel
theorem dX6_isReason_47 : decode cX6_isReason 47 = .ok (.goto 4, 3) := by decide +kernel
theorem dX6_isReason_50 : decode cX6_isReason 50 = .ok (.iconst 0, 1) := by decide +kernel
theorem dX6_isReason_51 : decode cX6_isReason 51 = .ok (.istore_n 3, 1) := by decide +kernel
theorem dX6_isReason_52 : decode cX6_isReason 52 = .ok (.iinc 4 1, 3) := by decide +kernel
theorem dX6_isReason_55 : decode cX6_isReason 55 = .ok (.goto (-45), 3) := by decide +kernel
theorem dX6_isReason_58 : decode cX6_isReason 58 = .ok (.iload_n 3, 1) := by decide +kernel
theorem dX6_isReason_59 : decode cX6_isReason 59 = .ok (.ireturn, 1) := by decide +kernel
set_option maxRecDepth 20000 in
theorem ggX6_answerNow_X6_isReason : GoodIn wsX6_answerNow wsX6_isReason := goodIn_r _ [8, 2, 9, 10, 11, 7, 12, 13, 14, 15, 16, 17, 18, 19, 20, 21, 22, 23, 24, 25, 26, 27, 28, 29, 30, 31, 32, 33, 34, 35, 36, 37, 38, 39, 40, 41, 42, 43, 44, 45, 46] (by decide +kernel) (by decide +kernel)
set_option maxRecDepth 20000 in
theorem gX6_answerNow_X6_isReason : GoodIn wsX6_answerNow (wsV RX6 192 RX6 yX6_isReason wsX6_isReason) := goodIn_app (goodIn_of _ (by decide +kernel)) ggX6_answerNow_X6_isReason
set_option maxRecDepth 20000 in
theorem ggX6_answerNow_X6_of : GoodIn wsX6_answerNow wsX6_of := goodIn_r _ [17, 2, 33, 34, 35, 36, 37, 38, 39, 40, 41, 42, 43, 44, 45, 46] (by decide +kernel) (by decide +kernel)
set_option maxRecDepth 20000 in
theorem gX6_answerNow_X6_of : GoodIn wsX6_answerNow (wsV RX6 97 RX6 yX6_of wsX6_of) := goodIn_app (goodIn_of _ (by decide +kernel)) ggX6_answerNow_X6_of
theorem dX6_answerNow_0 : decode cX6_answerNow 0 = .ok (.ldc 28, 2) := by decide +kernel
theorem dX6_answerNow_2 : decode cX6_answerNow 2 = .ok (.istore_n 2, 1) := by decide +kernel
theorem dX6_answerNow_3 : decode cX6_answerNow 3 = .ok (.iconst 0, 1) := by decide +kernel
theorem dX6_answerNow_4 : decode cX6_answerNow 4 = .ok (.istore_n 3, 1) := by decide +kernel
theorem dX6_answerNow_5 : decode cX6_answerNow 5 = .ok (.iload_n 3, 1) := by decide +kernel
theorem dX6_answerNow_6 : decode cX6_answerNow 6 = .ok (.aload_n 0, 1) := by decide +kernel
theorem dX6_answerNow_7 : decode cX6_answerNow 7 = .ok (.getfield 7, 3) := by decide +kernel
theorem dX6_answerNow_10 : decode cX6_answerNow 10 = .ok (.bipush 56, 2) := by decide +kernel
theorem dX6_answerNow_12 : decode cX6_answerNow 12 = .ok (.iaload, 1) := by decide +kernel
theorem dX6_answerNow_13 : decode cX6_answerNow 13 = .ok (.if_icmp .ge 48, 3) := by decide +kernel
theorem dX6_answerNow_16 : decode cX6_answerNow 16 = .ok (.aload_n 0, 1) := by decide +kernel
theorem dX6_answerNow_17 : decode cX6_answerNow 17 = .ok (.iload_n 3, 1) := by decide +kernel
theorem dX6_answerNow_18 : decode cX6_answerNow 18 = .ok (.iload_n 1, 1) := by decide +kernel
theorem dX6_answerNow_19 : decode cX6_answerNow 19 = .ok (.invokevirtual 192, 3) := by decide +kernel
theorem dX6_answerNow_22 : decode cX6_answerNow 22 = .ok (.ifCond .eq 33, 3) := by decide +kernel
theorem dX6_answerNow_25 : decode cX6_answerNow 25 = .ok (.iload_n 2, 1) := by decide +kernel
theorem dX6_answerNow_26 : decode cX6_answerNow 26 = .ok (.ldc 28, 2) := by decide +kernel
theorem dX6_answerNow_28 : decode cX6_answerNow 28 = .ok (.if_icmp .eq 14, 3) := by decide +kernel
theorem dX6_answerNow_31 : decode cX6_answerNow 31 = .ok (.iload_n 2, 1) := by decide +kernel
theorem dX6_answerNow_32 : decode cX6_answerNow 32 = .ok (.aload_n 0, 1) := by decide +kernel
theorem dX6_answerNow_33 : decode cX6_answerNow 33 = .ok (.iload_n 3, 1) := by decide +kernel
theorem dX6_answerNow_34 : decode cX6_answerNow 34 = .ok (.bipush 50, 2) := by decide +kernel
theorem dX6_answerNow_36 : decode cX6_answerNow 36 = .ok (.invokevirtual 97, 3) := by decide +kernel
theorem dX6_answerNow_39 : decode cX6_answerNow 39 = .ok (.if_icmp .ne 13, 3) := by decide +kernel
theorem dX6_answerNow_42 : decode cX6_answerNow 42 = .ok (.aload_n 0, 1) := by decide +kernel
theorem dX6_answerNow_43 : decode cX6_answerNow 43 = .ok (.iload_n 3, 1) := by decide +kernel
theorem dX6_answerNow_44 : decode cX6_answerNow 44 = .ok (.bipush 50, 2) := by decide +kernel
theorem dX6_answerNow_46 : decode cX6_answerNow 46 = .ok (.invokevirtual 97, 3) := by decide +kernel
theorem dX6_answerNow_49 : decode cX6_answerNow 49 = .ok (.goto 5, 3) := by decide +kernel
theorem dX6_answerNow_52 : decode cX6_answerNow 52 = .ok (.ldc 195, 2) := by decide +kernel
theorem dX6_answerNow_54 : decode cX6_answerNow 54 = .ok (.istore_n 2, 1) := by decide +kernel
theorem dX6_answerNow_55 : decode cX6_answerNow 55 = .ok (.iinc 3 1, 3) := by decide +kernel
theorem dX6_answerNow_58 : decode cX6_answerNow 58 = .ok (.goto (-53), 3) := by decide +kernel
theorem dX6_answerNow_61 : decode cX6_answerNow 61 = .ok (.iload_n 2, 1) := by decide +kernel
theorem dX6_answerNow_62 : decode cX6_answerNow 62 = .ok (.ireturn, 1) := by decide +kernel
set_option maxRecDepth 20000 in
theorem ggX6_answer_X6_isResult : GoodIn wsX6_answer wsX6_isResult := goodIn_r _ [5, 6, 7, 4, 8] (by decide +kernel) (by decide +kernel)
set_option maxRecDepth 20000 in
theorem gX6_answer_X6_isResult : GoodIn wsX6_answer (va_wsS RX6 196 yX6_isResult wsX6_isResult) := goodIn_app (goodIn_of _ (by decide +kernel)) ggX6_answer_X6_isResult
set_option maxRecDepth 20000 in
theorem ggX6_answer_X6_answerNow : GoodIn wsX6_answer wsX6_answerNow := goodIn_r _ [12, 13, 14, 15, 16, 17, 18, 4, 19, 20, 21, 22, 23, 24, 25, 26, 27, 28, 29, 30, 31, 32, 6, 7, 8, 33, 34, 35, 36, 37, 38, 39, 40, 41, 42, 43, 44, 45, 46, 47, 48, 49, 50, 51, 52, 53, 54] (by decide +kernel) (by decide +kernel)
set_option maxRecDepth 20000 in
theorem gX6_answer_X6_answerNow : GoodIn wsX6_answer (wsV RX6 199 RX6 yX6_answerNow wsX6_answerNow) := goodIn_app (goodIn_of _ (by decide +kernel)) ggX6_answer_X6_answerNow
theorem dX6_answer_0 : decode cX6_answer 0 = .ok (.iload_n 1, 1) := by decide +kernel
theorem dX6_answer_1 : decode cX6_answer 1 = .ok (.invokestatic 196, 3) := by decide +kernel
theorem dX6_answer_4 : decode cX6_answer 4 = .ok (.ifCond .eq 11, 3) := by decide +kernel
theorem dX6_answer_7 : decode cX6_answer 7 = .ok (.aload_n 0, 1) := by decide +kernel
theorem dX6_answer_8 : decode cX6_answer 8 = .ok (.iload_n 1, 1) := by decide +kernel
theorem dX6_answer_9 : decode cX6_answer 9 = .ok (.invokevirtual 199, 3) := by decide +kernel
theorem dX6_answer_12 : decode cX6_answer 12 = .ok (.goto 5, 3) := by decide +kernel
theorem dX6_answer_15 : decode cX6_answer 15 = .ok (.ldc 64, 2) := by decide +kernel
theorem dX6_answer_17 : decode cX6_answer 17 = .ok (.ireturn, 1) := by decide +kernel
set_option maxRecDepth 20000 in
theorem ggX6_reasons_X6_isResult : GoodIn wsX6_reasons wsX6_isResult := goodIn_r _ [6, 7, 8, 5, 9] (by decide +kernel) (by decide +kernel)
set_option maxRecDepth 20000 in
theorem gX6_reasons_X6_isResult : GoodIn wsX6_reasons (va_wsS RX6 196 yX6_isResult wsX6_isResult) := goodIn_app (goodIn_of _ (by decide +kernel)) ggX6_reasons_X6_isResult
set_option maxRecDepth 20000 in
theorem ggX6_reasons_X6_isReason : GoodIn wsX6_reasons wsX6_isReason := goodIn_r _ [13, 2, 14, 15, 16, 5, 17, 18, 19, 20, 21, 22, 23, 24, 25, 26, 7, 8, 9, 27, 28, 29, 30, 31, 32, 33, 34, 35, 36, 37, 38, 39, 40, 41, 42, 43, 44, 45, 46, 47, 48] (by decide +kernel) (by decide +kernel)
set_option maxRecDepth 20000 in
theorem gX6_reasons_X6_isReason : GoodIn wsX6_reasons (wsV RX6 192 RX6 yX6_isReason wsX6_isReason) := goodIn_app (goodIn_of _ (by decide +kernel)) ggX6_reasons_X6_isReason
theorem dX6_reasons_0 : decode cX6_reasons 0 = .ok (.iload_n 1, 1) := by decide +kernel
theorem dX6_reasons_1 : decode cX6_reasons 1 = .ok (.invokestatic 196, 3) := by decide +kernel
theorem dX6_reasons_4 : decode cX6_reasons 4 = .ok (.ifCond .ne 6, 3) := by decide +kernel
theorem dX6_reasons_7 : decode cX6_reasons 7 = .ok (.ldc 64, 2) := by decide +kernel
theorem dX6_reasons_9 : decode cX6_reasons 9 = .ok (.ireturn, 1) := by decide +kernel
theorem dX6_reasons_10 : decode cX6_reasons 10 = .ok (.iconst 0, 1) := by decide +kernel
theorem dX6_reasons_11 : decode cX6_reasons 11 = .ok (.istore_n 2, 1) := by decide +kernel
theorem dX6_reasons_12 : decode cX6_reasons 12 = .ok (.iconst 0, 1) := by decide +kernel
theorem dX6_reasons_13 : decode cX6_reasons 13 = .ok (.istore_n 3, 1) := by decide +kernel
theorem dX6_reasons_14 : decode cX6_reasons 14 = .ok (.iload_n 3, 1) := by decide +kernel
theorem dX6_reasons_15 : decode cX6_reasons 15 = .ok (.aload_n 0, 1) := by decide +kernel
theorem dX6_reasons_16 : decode cX6_reasons 16 = .ok (.getfield 7, 3) := by decide +kernel
theorem dX6_reasons_19 : decode cX6_reasons 19 = .ok (.bipush 56, 2) := by decide +kernel
theorem dX6_reasons_21 : decode cX6_reasons 21 = .ok (.iaload, 1) := by decide +kernel
theorem dX6_reasons_22 : decode cX6_reasons 22 = .ok (.if_icmp .ge 26, 3) := by decide +kernel
theorem dX6_reasons_25 : decode cX6_reasons 25 = .ok (.iload_n 2, 1) := by decide +kernel
theorem dX6_reasons_26 : decode cX6_reasons 26 = .ok (.aload_n 0, 1) := by decide +kernel
theorem dX6_reasons_27 : decode cX6_reasons 27 = .ok (.iload_n 3, 1) := by decide +kernel
theorem dX6_reasons_28 : decode cX6_reasons 28 = .ok (.iload_n 1, 1) := by decide +kernel
theorem dX6_reasons_29 : decode cX6_reasons 29 = .ok (.invokevirtual 192, 3) := by decide +kernel
theorem dX6_reasons_32 : decode cX6_reasons 32 = .ok (.ifCond .eq 7, 3) := by decide +kernel
theorem dX6_reasons_35 : decode cX6_reasons 35 = .ok (.iconst 1, 1) := by decide +kernel
theorem dX6_reasons_36 : decode cX6_reasons 36 = .ok (.goto 4, 3) := by decide +kernel
theorem dX6_reasons_39 : decode cX6_reasons 39 = .ok (.iconst 0, 1) := by decide +kernel
theorem dX6_reasons_40 : decode cX6_reasons 40 = .ok (.iadd, 1) := by decide +kernel
theorem dX6_reasons_41 : decode cX6_reasons 41 = .ok (.istore_n 2, 1) := by decide +kernel
theorem dX6_reasons_42 : decode cX6_reasons 42 = .ok (.iinc 3 1, 3) := by decide +kernel
theorem dX6_reasons_45 : decode cX6_reasons 45 = .ok (.goto (-31), 3) := by decide +kernel
theorem dX6_reasons_48 : decode cX6_reasons 48 = .ok (.iload_n 2, 1) := by decide +kernel
theorem dX6_reasons_49 : decode cX6_reasons 49 = .ok (.ireturn, 1) := by decide +kernel
set_option maxRecDepth 20000 in
theorem ggX6_reason_X6_isResult : GoodIn wsX6_reason wsX6_isResult := goodIn_r _ [7, 8, 9, 6, 10] (by decide +kernel) (by decide +kernel)
set_option maxRecDepth 20000 in
theorem gX6_reason_X6_isResult : GoodIn wsX6_reason (va_wsS RX6 196 yX6_isResult wsX6_isResult) := goodIn_app (goodIn_of _ (by decide +kernel)) ggX6_reason_X6_isResult
set_option maxRecDepth 20000 in
theorem ggX6_reason_X6_isReason : GoodIn wsX6_reason wsX6_isReason := goodIn_r _ [14, 2, 15, 16, 17, 6, 18, 19, 20, 21, 22, 23, 24, 25, 26, 27, 8, 9, 10, 28, 29, 30, 31, 32, 33, 34, 35, 47, 48, 49, 50, 51, 52, 53, 54, 55, 56, 57, 58, 59, 60] (by decide +kernel) (by decide +kernel)
set_option maxRecDepth 20000 in
theorem gX6_reason_X6_isReason : GoodIn wsX6_reason (wsV RX6 192 RX6 yX6_isReason wsX6_isReason) := goodIn_app (goodIn_of _ (by decide +kernel)) ggX6_reason_X6_isReason
set_option maxRecDepth 20000 in
theorem ggX6_reason_X6_sharpnessOf : GoodIn wsX6_reason wsX6_sharpnessOf := goodIn_r _ [39, 20, 21, 22, 6, 23, 2, 40, 41, 42, 43, 44, 45, 46, 47, 48, 49, 50, 51, 52, 53, 54, 55, 56, 57, 58, 59, 60] (by decide +kernel) (by decide +kernel)
set_option maxRecDepth 20000 in
theorem gX6_reason_X6_sharpnessOf : GoodIn wsX6_reason (wsV RX6 159 RX6 yX6_sharpnessOf wsX6_sharpnessOf) := goodIn_app (goodIn_of _ (by decide +kernel)) ggX6_reason_X6_sharpnessOf
theorem dX6_reason_0 : decode cX6_reason 0 = .ok (.iload_n 1, 1) := by decide +kernel
theorem dX6_reason_1 : decode cX6_reason 1 = .ok (.invokestatic 196, 3) := by decide +kernel
theorem dX6_reason_4 : decode cX6_reason 4 = .ok (.ifCond .eq 7, 3) := by decide +kernel
theorem dX6_reason_7 : decode cX6_reason 7 = .ok (.iload_n 2, 1) := by decide +kernel
theorem dX6_reason_8 : decode cX6_reason 8 = .ok (.ifCond .ge 6, 3) := by decide +kernel
theorem dX6_reason_11 : decode cX6_reason 11 = .ok (.ldc 64, 2) := by decide +kernel
theorem dX6_reason_13 : decode cX6_reason 13 = .ok (.ireturn, 1) := by decide +kernel
theorem dX6_reason_14 : decode cX6_reason 14 = .ok (.iconst 0, 1) := by decide +kernel
theorem dX6_reason_15 : decode cX6_reason 15 = .ok (.istore_n 3, 1) := by decide +kernel
theorem dX6_reason_16 : decode cX6_reason 16 = .ok (.iload_n 3, 1) := by decide +kernel
theorem dX6_reason_17 : decode cX6_reason 17 = .ok (.aload_n 0, 1) := by decide +kernel
theorem dX6_reason_18 : decode cX6_reason 18 = .ok (.getfield 7, 3) := by decide +kernel
theorem dX6_reason_21 : decode cX6_reason 21 = .ok (.bipush 56, 2) := by decide +kernel
theorem dX6_reason_23 : decode cX6_reason 23 = .ok (.iaload, 1) := by decide +kernel
theorem dX6_reason_24 : decode cX6_reason 24 = .ok (.if_icmp .ge 116, 3) := by decide +kernel
theorem dX6_reason_27 : decode cX6_reason 27 = .ok (.aload_n 0, 1) := by decide +kernel
theorem dX6_reason_28 : decode cX6_reason 28 = .ok (.iload_n 3, 1) := by decide +kernel
theorem dX6_reason_29 : decode cX6_reason 29 = .ok (.iload_n 1, 1) := by decide +kernel
theorem dX6_reason_30 : decode cX6_reason 30 = .ok (.invokevirtual 192, 3) := by decide +kernel
theorem dX6_reason_33 : decode cX6_reason 33 = .ok (.ifCond .eq 101, 3) := by decide +kernel
theorem dX6_reason_36 : decode cX6_reason 36 = .ok (.iconst 0, 1) := by decide +kernel
theorem dX6_reason_37 : decode cX6_reason 37 = .ok (.istore 4, 2) := by decide +kernel
theorem dX6_reason_39 : decode cX6_reason 39 = .ok (.iconst 0, 1) := by decide +kernel
theorem dX6_reason_40 : decode cX6_reason 40 = .ok (.istore 5, 2) := by decide +kernel
theorem dX6_reason_42 : decode cX6_reason 42 = .ok (.iload 5, 2) := by decide +kernel
theorem dX6_reason_44 : decode cX6_reason 44 = .ok (.aload_n 0, 1) := by decide +kernel
theorem dX6_reason_45 : decode cX6_reason 45 = .ok (.getfield 7, 3) := by decide +kernel
theorem dX6_reason_48 : decode cX6_reason 48 = .ok (.bipush 56, 2) := by decide +kernel
theorem dX6_reason_50 : decode cX6_reason 50 = .ok (.iaload, 1) := by decide +kernel
theorem dX6_reason_51 : decode cX6_reason 51 = .ok (.if_icmp .ge 75, 3) := by decide +kernel
theorem dX6_reason_54 : decode cX6_reason 54 = .ok (.aload_n 0, 1) := by decide +kernel
theorem dX6_reason_55 : decode cX6_reason 55 = .ok (.iload 5, 2) := by decide +kernel
theorem dX6_reason_57 : decode cX6_reason 57 = .ok (.invokevirtual 159, 3) := by decide +kernel
theorem dX6_reason_60 : decode cX6_reason 60 = .ok (.aload_n 0, 1) := by decide +kernel
theorem dX6_reason_61 : decode cX6_reason 61 = .ok (.iload_n 3, 1) := by decide +kernel
theorem dX6_reason_62 : decode cX6_reason 62 = .ok (.invokevirtual 159, 3) := by decide +kernel
theorem dX6_reason_65 : decode cX6_reason 65 = .ok (.if_icmp .gt 23, 3) := by decide +kernel
theorem dX6_reason_68 : decode cX6_reason 68 = .ok (.aload_n 0, 1) := by decide +kernel
theorem dX6_reason_69 : decode cX6_reason 69 = .ok (.iload 5, 2) := by decide +kernel
theorem dX6_reason_71 : decode cX6_reason 71 = .ok (.invokevirtual 159, 3) := by decide +kernel
theorem dX6_reason_74 : decode cX6_reason 74 = .ok (.aload_n 0, 1) := by decide +kernel
theorem dX6_reason_75 : decode cX6_reason 75 = .ok (.iload_n 3, 1) := by decide +kernel
theorem dX6_reason_76 : decode cX6_reason 76 = .ok (.invokevirtual 159, 3) := by decide +kernel
theorem dX6_reason_79 : decode cX6_reason 79 = .ok (.if_icmp .ne 13, 3) := by decide +kernel
theorem dX6_reason_82 : decode cX6_reason 82 = .ok (.iload 5, 2) := by decide +kernel
theorem dX6_reason_84 : decode cX6_reason 84 = .ok (.iload_n 3, 1) := by decide +kernel
theorem dX6_reason_85 : decode cX6_reason 85 = .ok (.if_icmp .ge 7, 3) := by decide +kernel
theorem dX6_reason_88 : decode cX6_reason 88 = .ok (.iconst 1, 1) := by decide +kernel
theorem dX6_reason_89 : decode cX6_reason 89 = .ok (.goto 4, 3) := by decide +kernel
theorem dX6_reason_92 : decode cX6_reason 92 = .ok (.iconst 0, 1) := by decide +kernel
theorem dX6_reason_93 : decode cX6_reason 93 = .ok (.istore 6, 2) := by decide +kernel
theorem dX6_reason_95 : decode cX6_reason 95 = .ok (.iload 4, 2) := by decide +kernel
theorem dX6_reason_97 : decode cX6_reason 97 = .ok (.iload 6, 2) := by decide +kernel
theorem dX6_reason_99 : decode cX6_reason 99 = .ok (.ifCond .eq 17, 3) := by decide +kernel
theorem dX6_reason_102 : decode cX6_reason 102 = .ok (.aload_n 0, 1) := by decide +kernel
theorem dX6_reason_103 : decode cX6_reason 103 = .ok (.iload 5, 2) := by decide +kernel
theorem dX6_reason_105 : decode cX6_reason 105 = .ok (.iload_n 1, 1) := by decide +kernel
theorem dX6_reason_106 : decode cX6_reason 106 = .ok (.invokevirtual 192, 3) := by decide +kernel
theorem dX6_reason_109 : decode cX6_reason 109 = .ok (.ifCond .eq 7, 3) := by decide +kernel
theorem dX6_reason_112 : decode cX6_reason 112 = .ok (.iconst 1, 1) := by decide +kernel
theorem dX6_reason_113 : decode cX6_reason 113 = .ok (.goto 4, 3) := by decide +kernel
theorem dX6_reason_116 : decode cX6_reason 116 = .ok (.iconst 0, 1) := by decide +kernel
theorem dX6_reason_117 : decode cX6_reason 117 = .ok (.iadd, 1) := by decide +kernel
theorem dX6_reason_118 : decode cX6_reason 118 = .ok (.istore 4, 2) := by decide +kernel
theorem dX6_reason_120 : decode cX6_reason 120 = .ok (.iinc 5 1, 3) := by decide +kernel
theorem dX6_reason_123 : decode cX6_reason 123 = .ok (.goto (-81), 3) := by decide +kernel
theorem dX6_reason_126 : decode cX6_reason 126 = .ok (.iload 4, 2) := by decide +kernel
theorem dX6_reason_128 : decode cX6_reason 128 = .ok (.iload_n 2, 1) := by decide +kernel
theorem dX6_reason_129 : decode cX6_reason 129 = .ok (.if_icmp .ne 5, 3) := by decide +kernel
theorem dX6_reason_132 : decode cX6_reason 132 = .ok (.iload_n 3, 1) := by decide +kernel
theorem dX6_reason_133 : decode cX6_reason 133 = .ok (.ireturn, 1) := by decide +kernel
theorem dX6_reason_134 : decode cX6_reason 134 = .ok (.iinc 3 1, 3) := by decide +kernel
theorem dX6_reason_137 : decode cX6_reason 137 = .ok (.goto (-121), 3) := by decide +kernel
theorem dX6_reason_140 : decode cX6_reason 140 = .ok (.ldc 28, 2) := by decide +kernel
theorem dX6_reason_142 : decode cX6_reason 142 = .ok (.ireturn, 1) := by decide +kernel
set_option maxRecDepth 20000 in
theorem ggX6_overridden_X6_isResult : GoodIn wsX6_overridden wsX6_isResult := goodIn_r _ [6, 7, 8, 5, 9] (by decide +kernel) (by decide +kernel)
set_option maxRecDepth 20000 in
theorem gX6_overridden_X6_isResult : GoodIn wsX6_overridden (va_wsS RX6 196 yX6_isResult wsX6_isResult) := goodIn_app (goodIn_of _ (by decide +kernel)) ggX6_overridden_X6_isResult
set_option maxRecDepth 20000 in
theorem ggX6_overridden_X6_applies : GoodIn wsX6_overridden wsX6_applies := goodIn_r _ [13, 14, 15, 16, 17, 5, 18, 2, 19, 20, 21, 22, 7, 8, 9, 35, 36, 37, 38, 39, 40, 41, 42, 43, 44, 45, 46, 47, 48] (by decide +kernel) (by decide +kernel)
set_option maxRecDepth 20000 in
theorem gX6_overridden_X6_applies : GoodIn wsX6_overridden (wsV RX6 186 RX6 yX6_applies wsX6_applies) := goodIn_app (goodIn_of _ (by decide +kernel)) ggX6_overridden_X6_applies
set_option maxRecDepth 20000 in
theorem ggX6_overridden_X6_isReason : GoodIn wsX6_overridden wsX6_isReason := goodIn_r _ [26, 2, 10, 11, 12, 5, 13, 14, 15, 16, 17, 18, 19, 20, 21, 22, 7, 8, 9, 27, 28, 29, 30, 31, 32, 33, 34, 35, 36, 37, 38, 39, 40, 41, 42, 43, 44, 45, 46, 47, 48] (by decide +kernel) (by decide +kernel)
set_option maxRecDepth 20000 in
theorem gX6_overridden_X6_isReason : GoodIn wsX6_overridden (wsV RX6 192 RX6 yX6_isReason wsX6_isReason) := goodIn_app (goodIn_of _ (by decide +kernel)) ggX6_overridden_X6_isReason
theorem dX6_overridden_0 : decode cX6_overridden 0 = .ok (.iload_n 1, 1) := by decide +kernel
theorem dX6_overridden_1 : decode cX6_overridden 1 = .ok (.invokestatic 196, 3) := by decide +kernel
theorem dX6_overridden_4 : decode cX6_overridden 4 = .ok (.ifCond .ne 6, 3) := by decide +kernel
theorem dX6_overridden_7 : decode cX6_overridden 7 = .ok (.ldc 64, 2) := by decide +kernel
theorem dX6_overridden_9 : decode cX6_overridden 9 = .ok (.ireturn, 1) := by decide +kernel
theorem dX6_overridden_10 : decode cX6_overridden 10 = .ok (.iconst 0, 1) := by decide +kernel
theorem dX6_overridden_11 : decode cX6_overridden 11 = .ok (.istore_n 2, 1) := by decide +kernel
theorem dX6_overridden_12 : decode cX6_overridden 12 = .ok (.iconst 0, 1) := by decide +kernel
theorem dX6_overridden_13 : decode cX6_overridden 13 = .ok (.istore_n 3, 1) := by decide +kernel
theorem dX6_overridden_14 : decode cX6_overridden 14 = .ok (.iload_n 3, 1) := by decide +kernel
theorem dX6_overridden_15 : decode cX6_overridden 15 = .ok (.aload_n 0, 1) := by decide +kernel
theorem dX6_overridden_16 : decode cX6_overridden 16 = .ok (.getfield 7, 3) := by decide +kernel
theorem dX6_overridden_19 : decode cX6_overridden 19 = .ok (.bipush 56, 2) := by decide +kernel
theorem dX6_overridden_21 : decode cX6_overridden 21 = .ok (.iaload, 1) := by decide +kernel
theorem dX6_overridden_22 : decode cX6_overridden 22 = .ok (.if_icmp .ge 35, 3) := by decide +kernel
theorem dX6_overridden_25 : decode cX6_overridden 25 = .ok (.iload_n 2, 1) := by decide +kernel
theorem dX6_overridden_26 : decode cX6_overridden 26 = .ok (.aload_n 0, 1) := by decide +kernel
theorem dX6_overridden_27 : decode cX6_overridden 27 = .ok (.iload_n 3, 1) := by decide +kernel
theorem dX6_overridden_28 : decode cX6_overridden 28 = .ok (.iload_n 1, 1) := by decide +kernel
theorem dX6_overridden_29 : decode cX6_overridden 29 = .ok (.invokevirtual 186, 3) := by decide +kernel
theorem dX6_overridden_32 : decode cX6_overridden 32 = .ok (.ifCond .eq 16, 3) := by decide +kernel
theorem dX6_overridden_35 : decode cX6_overridden 35 = .ok (.aload_n 0, 1) := by decide +kernel
theorem dX6_overridden_36 : decode cX6_overridden 36 = .ok (.iload_n 3, 1) := by decide +kernel
theorem dX6_overridden_37 : decode cX6_overridden 37 = .ok (.iload_n 1, 1) := by decide +kernel
theorem dX6_overridden_38 : decode cX6_overridden 38 = .ok (.invokevirtual 192, 3) := by decide +kernel
theorem dX6_overridden_41 : decode cX6_overridden 41 = .ok (.ifCond .ne 7, 3) := by decide +kernel
theorem dX6_overridden_44 : decode cX6_overridden 44 = .ok (.iconst 1, 1) := by decide +kernel
theorem dX6_overridden_45 : decode cX6_overridden 45 = .ok (.goto 4, 3) := by decide +kernel
theorem dX6_overridden_48 : decode cX6_overridden 48 = .ok (.iconst 0, 1) := by decide +kernel
theorem dX6_overridden_49 : decode cX6_overridden 49 = .ok (.iadd, 1) := by decide +kernel
theorem dX6_overridden_50 : decode cX6_overridden 50 = .ok (.istore_n 2, 1) := by decide +kernel
theorem dX6_overridden_51 : decode cX6_overridden 51 = .ok (.iinc 3 1, 3) := by decide +kernel
theorem dX6_overridden_54 : decode cX6_overridden 54 = .ok (.goto (-40), 3) := by decide +kernel
theorem dX6_overridden_57 : decode cX6_overridden 57 = .ok (.iload_n 2, 1) := by decide +kernel
theorem dX6_overridden_58 : decode cX6_overridden 58 = .ok (.ireturn, 1) := by decide +kernel
set_option maxRecDepth 20000 in
theorem ggX6_holds_X6_in : GoodIn wsX6_holds wsX6_in := goodIn_r _ [6] (by decide +kernel) (by decide +kernel)
set_option maxRecDepth 20000 in
theorem gX6_holds_X6_in : GoodIn wsX6_holds (va_wsS RX6 42 yX6_in wsX6_in) := goodIn_app (goodIn_of _ (by decide +kernel)) ggX6_holds_X6_in
set_option maxRecDepth 20000 in
theorem ggX6_holds_X6_definitionOf : GoodIn wsX6_holds wsX6_definitionOf := goodIn_r _ [10, 11, 2, 12, 13, 14, 5, 15, 20, 21, 22, 23, 24, 25, 26, 27, 28, 29, 30, 31, 32, 33] (by decide +kernel) (by decide +kernel)
set_option maxRecDepth 20000 in
theorem gX6_holds_X6_definitionOf : GoodIn wsX6_holds (wsV RX6 103 RX6 yX6_definitionOf wsX6_definitionOf) := goodIn_app (goodIn_of _ (by decide +kernel)) ggX6_holds_X6_definitionOf
set_option maxRecDepth 20000 in
theorem ggX6_holds_X6_contains : GoodIn wsX6_holds wsX6_contains := goodIn_r _ [19, 11, 12, 13, 14, 5, 15, 3, 4, 6, 20, 21, 22, 23, 24, 25, 26, 27, 28, 29, 30, 31, 32, 33] (by decide +kernel) (by decide +kernel)
set_option maxRecDepth 20000 in
theorem gX6_holds_X6_contains : GoodIn wsX6_holds (wsV RX6 183 RX6 yX6_contains wsX6_contains) := goodIn_app (goodIn_of _ (by decide +kernel)) ggX6_holds_X6_contains
theorem dX6_holds_0 : decode cX6_holds 0 = .ok (.iload_n 1, 1) := by decide +kernel
theorem dX6_holds_1 : decode cX6_holds 1 = .ok (.iconst 0, 1) := by decide +kernel
theorem dX6_holds_2 : decode cX6_holds 2 = .ok (.iconst 5, 1) := by decide +kernel
theorem dX6_holds_3 : decode cX6_holds 3 = .ok (.invokestatic 42, 3) := by decide +kernel
theorem dX6_holds_6 : decode cX6_holds 6 = .ok (.ifCond .ne 6, 3) := by decide +kernel
theorem dX6_holds_9 : decode cX6_holds 9 = .ok (.ldc 64, 2) := by decide +kernel
theorem dX6_holds_11 : decode cX6_holds 11 = .ok (.ireturn, 1) := by decide +kernel
theorem dX6_holds_12 : decode cX6_holds 12 = .ok (.aload_n 0, 1) := by decide +kernel
theorem dX6_holds_13 : decode cX6_holds 13 = .ok (.iload_n 1, 1) := by decide +kernel
theorem dX6_holds_14 : decode cX6_holds 14 = .ok (.invokevirtual 103, 3) := by decide +kernel
theorem dX6_holds_17 : decode cX6_holds 17 = .ok (.istore_n 2, 1) := by decide +kernel
theorem dX6_holds_18 : decode cX6_holds 18 = .ok (.iload_n 2, 1) := by decide +kernel
theorem dX6_holds_19 : decode cX6_holds 19 = .ok (.ifCond .ge 8, 3) := by decide +kernel
theorem dX6_holds_22 : decode cX6_holds 22 = .ok (.ldc 28, 2) := by decide +kernel
theorem dX6_holds_24 : decode cX6_holds 24 = .ok (.goto 16, 3) := by decide +kernel
theorem dX6_holds_27 : decode cX6_holds 27 = .ok (.aload_n 0, 1) := by decide +kernel
theorem dX6_holds_28 : decode cX6_holds 28 = .ok (.iload_n 2, 1) := by decide +kernel
theorem dX6_holds_29 : decode cX6_holds 29 = .ok (.invokevirtual 183, 3) := by decide +kernel
theorem dX6_holds_32 : decode cX6_holds 32 = .ok (.ifCond .eq 7, 3) := by decide +kernel
theorem dX6_holds_35 : decode cX6_holds 35 = .ok (.iconst 1, 1) := by decide +kernel
theorem dX6_holds_36 : decode cX6_holds 36 = .ok (.goto 4, 3) := by decide +kernel
theorem dX6_holds_39 : decode cX6_holds 39 = .ok (.iconst 0, 1) := by decide +kernel
theorem dX6_holds_40 : decode cX6_holds 40 = .ok (.ireturn, 1) := by decide +kernel
theorem dX6_greater_0 : decode cX6_greater 0 = .ok (.iload_n 0, 1) := by decide +kernel
theorem dX6_greater_1 : decode cX6_greater 1 = .ok (.iload_n 1, 1) := by decide +kernel
theorem dX6_greater_2 : decode cX6_greater 2 = .ok (.if_icmp .le 7, 3) := by decide +kernel
theorem dX6_greater_5 : decode cX6_greater 5 = .ok (.iload_n 0, 1) := by decide +kernel
theorem dX6_greater_6 : decode cX6_greater 6 = .ok (.goto 4, 3) := by decide +kernel
theorem dX6_greater_9 : decode cX6_greater 9 = .ok (.iload_n 1, 1) := by decide +kernel
theorem dX6_greater_10 : decode cX6_greater 10 = .ok (.ireturn, 1) := by decide +kernel
theorem dX6_smaller_0 : decode cX6_smaller 0 = .ok (.iload_n 0, 1) := by decide +kernel
theorem dX6_smaller_1 : decode cX6_smaller 1 = .ok (.iload_n 1, 1) := by decide +kernel
theorem dX6_smaller_2 : decode cX6_smaller 2 = .ok (.if_icmp .ge 7, 3) := by decide +kernel
theorem dX6_smaller_5 : decode cX6_smaller 5 = .ok (.iload_n 0, 1) := by decide +kernel
theorem dX6_smaller_6 : decode cX6_smaller 6 = .ok (.goto 4, 3) := by decide +kernel
theorem dX6_smaller_9 : decode cX6_smaller 9 = .ok (.iload_n 1, 1) := by decide +kernel
theorem dX6_smaller_10 : decode cX6_smaller 10 = .ok (.ireturn, 1) := by decide +kernel
set_option maxRecDepth 20000 in
theorem ggX6_meet_X6_of : GoodIn wsX6_meet wsX6_of := goodIn_r _ [7, 8, 15, 16, 17, 18, 19, 20, 21, 22, 23, 24, 25, 26, 27, 28] (by decide +kernel) (by decide +kernel)
set_option maxRecDepth 20000 in
theorem gX6_meet_X6_of : GoodIn wsX6_meet (wsV RX6 97 RX6 yX6_of wsX6_of) := goodIn_app (goodIn_of _ (by decide +kernel)) ggX6_meet_X6_of
set_option maxRecDepth 20000 in
theorem ggX6_meet_X6_greater : GoodIn wsX6_meet wsX6_greater := goodIn_r _ [11] (by decide +kernel) (by decide +kernel)
set_option maxRecDepth 20000 in
theorem gX6_meet_X6_greater : GoodIn wsX6_meet (va_wsS RX6 202 yX6_greater wsX6_greater) := goodIn_app (goodIn_of _ (by decide +kernel)) ggX6_meet_X6_greater
set_option maxRecDepth 20000 in
theorem ggX6_meet_X6_smaller : GoodIn wsX6_meet wsX6_smaller := goodIn_r _ [14] (by decide +kernel) (by decide +kernel)
set_option maxRecDepth 20000 in
theorem gX6_meet_X6_smaller : GoodIn wsX6_meet (va_wsS RX6 205 yX6_smaller wsX6_smaller) := goodIn_app (goodIn_of _ (by decide +kernel)) ggX6_meet_X6_smaller
theorem dX6_meet_0 : decode cX6_meet 0 = .ok (.iconst 1, 1) := by decide +kernel
theorem dX6_meet_1 : decode cX6_meet 1 = .ok (.istore_n 3, 1) := by decide +kernel
theorem dX6_meet_2 : decode cX6_meet 2 = .ok (.iconst 0, 1) := by decide +kernel
theorem dX6_meet_3 : decode cX6_meet 3 = .ok (.istore 4, 2) := by decide +kernel
theorem dX6_meet_5 : decode cX6_meet 5 = .ok (.iload 4, 2) := by decide +kernel
theorem dX6_meet_7 : decode cX6_meet 7 = .ok (.bipush 7, 2) := by decide +kernel
theorem dX6_meet_9 : decode cX6_meet 9 = .ok (.if_icmp .ge 96, 3) := by decide +kernel
theorem dX6_meet_12 : decode cX6_meet 12 = .ok (.aload_n 0, 1) := by decide +kernel
theorem dX6_meet_13 : decode cX6_meet 13 = .ok (.getfield 19, 3) := by decide +kernel
theorem dX6_meet_16 : decode cX6_meet 16 = .ok (.iload 4, 2) := by decide +kernel
theorem dX6_meet_18 : decode cX6_meet 18 = .ok (.aload_n 0, 1) := by decide +kernel
theorem dX6_meet_19 : decode cX6_meet 19 = .ok (.iload_n 1, 1) := by decide +kernel
theorem dX6_meet_20 : decode cX6_meet 20 = .ok (.bipush 52, 2) := by decide +kernel
theorem dX6_meet_22 : decode cX6_meet 22 = .ok (.iload 4, 2) := by decide +kernel
theorem dX6_meet_24 : decode cX6_meet 24 = .ok (.iadd, 1) := by decide +kernel
theorem dX6_meet_25 : decode cX6_meet 25 = .ok (.invokevirtual 97, 3) := by decide +kernel
theorem dX6_meet_28 : decode cX6_meet 28 = .ok (.aload_n 0, 1) := by decide +kernel
theorem dX6_meet_29 : decode cX6_meet 29 = .ok (.iload_n 2, 1) := by decide +kernel
theorem dX6_meet_30 : decode cX6_meet 30 = .ok (.bipush 52, 2) := by decide +kernel
theorem dX6_meet_32 : decode cX6_meet 32 = .ok (.iload 4, 2) := by decide +kernel
theorem dX6_meet_34 : decode cX6_meet 34 = .ok (.iadd, 1) := by decide +kernel
theorem dX6_meet_35 : decode cX6_meet 35 = .ok (.invokevirtual 97, 3) := by decide +kernel
theorem dX6_meet_38 : decode cX6_meet 38 = .ok (.invokestatic 202, 3) := by decide +kernel
theorem dX6_meet_41 : decode cX6_meet 41 = .ok (.iastore, 1) := by decide +kernel
theorem dX6_meet_42 : decode cX6_meet 42 = .ok (.aload_n 0, 1) := by decide +kernel
theorem dX6_meet_43 : decode cX6_meet 43 = .ok (.getfield 22, 3) := by decide +kernel
theorem dX6_meet_46 : decode cX6_meet 46 = .ok (.iload 4, 2) := by decide +kernel
theorem dX6_meet_48 : decode cX6_meet 48 = .ok (.aload_n 0, 1) := by decide +kernel
theorem dX6_meet_49 : decode cX6_meet 49 = .ok (.iload_n 1, 1) := by decide +kernel
theorem dX6_meet_50 : decode cX6_meet 50 = .ok (.bipush 59, 2) := by decide +kernel
theorem dX6_meet_52 : decode cX6_meet 52 = .ok (.iload 4, 2) := by decide +kernel
theorem dX6_meet_54 : decode cX6_meet 54 = .ok (.iadd, 1) := by decide +kernel
theorem dX6_meet_55 : decode cX6_meet 55 = .ok (.invokevirtual 97, 3) := by decide +kernel
theorem dX6_meet_58 : decode cX6_meet 58 = .ok (.aload_n 0, 1) := by decide +kernel
theorem dX6_meet_59 : decode cX6_meet 59 = .ok (.iload_n 2, 1) := by decide +kernel
theorem dX6_meet_60 : decode cX6_meet 60 = .ok (.bipush 59, 2) := by decide +kernel
theorem dX6_meet_62 : decode cX6_meet 62 = .ok (.iload 4, 2) := by decide +kernel
theorem dX6_meet_64 : decode cX6_meet 64 = .ok (.iadd, 1) := by decide +kernel
theorem dX6_meet_65 : decode cX6_meet 65 = .ok (.invokevirtual 97, 3) := by decide +kernel
theorem dX6_meet_68 : decode cX6_meet 68 = .ok (.invokestatic 205, 3) := by decide +kernel
theorem dX6_meet_71 : decode cX6_meet 71 = .ok (.iastore, 1) := by decide +kernel
theorem dX6_meet_72 : decode cX6_meet 72 = .ok (.iload_n 3, 1) := by decide +kernel
theorem dX6_meet_73 : decode cX6_meet 73 = .ok (.ifCond .eq 24, 3) := by decide +kernel
theorem dX6_meet_76 : decode cX6_meet 76 = .ok (.aload_n 0, 1) := by decide +kernel
theorem dX6_meet_77 : decode cX6_meet 77 = .ok (.getfield 19, 3) := by decide +kernel
theorem dX6_meet_80 : decode cX6_meet 80 = .ok (.iload 4, 2) := by decide +kernel
theorem dX6_meet_82 : decode cX6_meet 82 = .ok (.iaload, 1) := by decide +kernel
theorem dX6_meet_83 : decode cX6_meet 83 = .ok (.aload_n 0, 1) := by decide +kernel
theorem dX6_meet_84 : decode cX6_meet 84 = .ok (.getfield 22, 3) := by decide +kernel
theorem dX6_meet_87 : decode cX6_meet 87 = .ok (.iload 4, 2) := by decide +kernel
theorem dX6_meet_89 : decode cX6_meet 89 = .ok (.iaload, 1) := by decide +kernel
theorem dX6_meet_90 : decode cX6_meet 90 = .ok (.if_icmp .gt 7, 3) := by decide +kernel
theorem dX6_meet_93 : decode cX6_meet 93 = .ok (.iconst 1, 1) := by decide +kernel
theorem dX6_meet_94 : decode cX6_meet 94 = .ok (.goto 4, 3) := by decide +kernel
theorem dX6_meet_97 : decode cX6_meet 97 = .ok (.iconst 0, 1) := by decide +kernel
theorem dX6_meet_98 : decode cX6_meet 98 = .ok (.istore_n 3, 1) := by decide +kernel
theorem dX6_meet_99 : decode cX6_meet 99 = .ok (.iinc 4 1, 3) := by decide +kernel
theorem dX6_meet_102 : decode cX6_meet 102 = .ok (.goto (-97), 3) := by decide +kernel
theorem dX6_meet_105 : decode cX6_meet 105 = .ok (.iload_n 3, 1) := by decide +kernel
theorem dX6_meet_106 : decode cX6_meet 106 = .ok (.ireturn, 1) := by decide +kernel
set_option maxRecDepth 20000 in
theorem ggX6_compare_X6_isSentence : GoodIn wsX6_compare wsX6_isSentence := goodIn_r _ [6, 7, 8, 9, 5, 10, 31, 32, 33, 34, 35, 36, 37, 38, 39, 40, 41, 42, 43, 44] (by decide +kernel) (by decide +kernel)
set_option maxRecDepth 20000 in
theorem gX6_compare_X6_isSentence : GoodIn wsX6_compare (wsV RX6 142 RX6 yX6_isSentence wsX6_isSentence) := goodIn_app (goodIn_of _ (by decide +kernel)) ggX6_compare_X6_isSentence
set_option maxRecDepth 20000 in
theorem ggX6_compare_X6_isInside : GoodIn wsX6_compare wsX6_isInside := goodIn_r _ [14, 15, 16, 17, 5, 18, 7, 31, 32, 33, 34, 35, 36, 37, 38, 39, 40, 41, 42, 43, 44] (by decide +kernel) (by decide +kernel)
set_option maxRecDepth 20000 in
theorem gX6_compare_X6_isInside : GoodIn wsX6_compare (wsV RX6 180 RX6 yX6_isInside wsX6_isInside) := goodIn_app (goodIn_of _ (by decide +kernel)) ggX6_compare_X6_isInside
set_option maxRecDepth 20000 in
theorem ggX6_compare_X6_meet : GoodIn wsX6_compare wsX6_meet := goodIn_r _ [22, 23, 24, 15, 16, 17, 5, 18, 7, 25, 26, 27, 28, 29, 30, 31, 32, 33, 34, 35, 36, 37, 38, 39, 40, 41, 42, 43, 44] (by decide +kernel) (by decide +kernel)
set_option maxRecDepth 20000 in
theorem gX6_compare_X6_meet : GoodIn wsX6_compare (wsV RX6 208 RX6 yX6_meet wsX6_meet) := goodIn_app (goodIn_of _ (by decide +kernel)) ggX6_compare_X6_meet
theorem dX6_compare_0 : decode cX6_compare 0 = .ok (.aload_n 0, 1) := by decide +kernel
theorem dX6_compare_1 : decode cX6_compare 1 = .ok (.iload_n 1, 1) := by decide +kernel
theorem dX6_compare_2 : decode cX6_compare 2 = .ok (.invokevirtual 142, 3) := by decide +kernel
theorem dX6_compare_5 : decode cX6_compare 5 = .ok (.ifCond .eq 11, 3) := by decide +kernel
theorem dX6_compare_8 : decode cX6_compare 8 = .ok (.aload_n 0, 1) := by decide +kernel
theorem dX6_compare_9 : decode cX6_compare 9 = .ok (.iload_n 2, 1) := by decide +kernel
theorem dX6_compare_10 : decode cX6_compare 10 = .ok (.invokevirtual 142, 3) := by decide +kernel
theorem dX6_compare_13 : decode cX6_compare 13 = .ok (.ifCond .ne 6, 3) := by decide +kernel
theorem dX6_compare_16 : decode cX6_compare 16 = .ok (.ldc 145, 2) := by decide +kernel
theorem dX6_compare_18 : decode cX6_compare 18 = .ok (.ireturn, 1) := by decide +kernel
theorem dX6_compare_19 : decode cX6_compare 19 = .ok (.aload_n 0, 1) := by decide +kernel
theorem dX6_compare_20 : decode cX6_compare 20 = .ok (.iload_n 1, 1) := by decide +kernel
theorem dX6_compare_21 : decode cX6_compare 21 = .ok (.iload_n 2, 1) := by decide +kernel
theorem dX6_compare_22 : decode cX6_compare 22 = .ok (.invokevirtual 180, 3) := by decide +kernel
theorem dX6_compare_25 : decode cX6_compare 25 = .ok (.istore_n 3, 1) := by decide +kernel
theorem dX6_compare_26 : decode cX6_compare 26 = .ok (.aload_n 0, 1) := by decide +kernel
theorem dX6_compare_27 : decode cX6_compare 27 = .ok (.iload_n 2, 1) := by decide +kernel
theorem dX6_compare_28 : decode cX6_compare 28 = .ok (.iload_n 1, 1) := by decide +kernel
theorem dX6_compare_29 : decode cX6_compare 29 = .ok (.invokevirtual 180, 3) := by decide +kernel
theorem dX6_compare_32 : decode cX6_compare 32 = .ok (.istore 4, 2) := by decide +kernel
theorem dX6_compare_34 : decode cX6_compare 34 = .ok (.iload_n 3, 1) := by decide +kernel
theorem dX6_compare_35 : decode cX6_compare 35 = .ok (.ifCond .eq 12, 3) := by decide +kernel
theorem dX6_compare_38 : decode cX6_compare 38 = .ok (.iload 4, 2) := by decide +kernel
theorem dX6_compare_40 : decode cX6_compare 40 = .ok (.ifCond .eq 7, 3) := by decide +kernel
theorem dX6_compare_43 : decode cX6_compare 43 = .ok (.iconst 0, 1) := by decide +kernel
theorem dX6_compare_44 : decode cX6_compare 44 = .ok (.goto 34, 3) := by decide +kernel
theorem dX6_compare_47 : decode cX6_compare 47 = .ok (.iload_n 3, 1) := by decide +kernel
theorem dX6_compare_48 : decode cX6_compare 48 = .ok (.ifCond .eq 7, 3) := by decide +kernel
theorem dX6_compare_51 : decode cX6_compare 51 = .ok (.iconst 1, 1) := by decide +kernel
theorem dX6_compare_52 : decode cX6_compare 52 = .ok (.goto 26, 3) := by decide +kernel
theorem dX6_compare_55 : decode cX6_compare 55 = .ok (.iload 4, 2) := by decide +kernel
theorem dX6_compare_57 : decode cX6_compare 57 = .ok (.ifCond .eq 7, 3) := by decide +kernel
theorem dX6_compare_60 : decode cX6_compare 60 = .ok (.iconst 2, 1) := by decide +kernel
theorem dX6_compare_61 : decode cX6_compare 61 = .ok (.goto 17, 3) := by decide +kernel
theorem dX6_compare_64 : decode cX6_compare 64 = .ok (.aload_n 0, 1) := by decide +kernel
theorem dX6_compare_65 : decode cX6_compare 65 = .ok (.iload_n 1, 1) := by decide +kernel
theorem dX6_compare_66 : decode cX6_compare 66 = .ok (.iload_n 2, 1) := by decide +kernel
theorem dX6_compare_67 : decode cX6_compare 67 = .ok (.invokevirtual 208, 3) := by decide +kernel
theorem dX6_compare_70 : decode cX6_compare 70 = .ok (.ifCond .eq 7, 3) := by decide +kernel
theorem dX6_compare_73 : decode cX6_compare 73 = .ok (.iconst 3, 1) := by decide +kernel
theorem dX6_compare_74 : decode cX6_compare 74 = .ok (.goto 4, 3) := by decide +kernel
theorem dX6_compare_77 : decode cX6_compare 77 = .ok (.iconst 4, 1) := by decide +kernel
theorem dX6_compare_78 : decode cX6_compare 78 = .ok (.ireturn, 1) := by decide +kernel
set_option maxRecDepth 20000 in
theorem ggX6_hasRegion_X6_of : GoodIn wsX6_hasRegion wsX6_of := goodIn_r _ [7, 8, 9, 10, 11, 12, 13, 14, 15, 16, 17, 18, 19, 20, 21, 22] (by decide +kernel) (by decide +kernel)
set_option maxRecDepth 20000 in
theorem gX6_hasRegion_X6_of : GoodIn wsX6_hasRegion (wsV RX6 97 RX6 yX6_of wsX6_of) := goodIn_app (goodIn_of _ (by decide +kernel)) ggX6_hasRegion_X6_of
theorem dX6_hasRegion_0 : decode cX6_hasRegion 0 = .ok (.iconst 1, 1) := by decide +kernel
theorem dX6_hasRegion_1 : decode cX6_hasRegion 1 = .ok (.istore_n 2, 1) := by decide +kernel
theorem dX6_hasRegion_2 : decode cX6_hasRegion 2 = .ok (.iconst 0, 1) := by decide +kernel
theorem dX6_hasRegion_3 : decode cX6_hasRegion 3 = .ok (.istore_n 3, 1) := by decide +kernel
theorem dX6_hasRegion_4 : decode cX6_hasRegion 4 = .ok (.iload_n 3, 1) := by decide +kernel
theorem dX6_hasRegion_5 : decode cX6_hasRegion 5 = .ok (.bipush 7, 2) := by decide +kernel
theorem dX6_hasRegion_7 : decode cX6_hasRegion 7 = .ok (.if_icmp .ge 55, 3) := by decide +kernel
theorem dX6_hasRegion_10 : decode cX6_hasRegion 10 = .ok (.iload_n 2, 1) := by decide +kernel
theorem dX6_hasRegion_11 : decode cX6_hasRegion 11 = .ok (.ifCond .eq 43, 3) := by decide +kernel
theorem dX6_hasRegion_14 : decode cX6_hasRegion 14 = .ok (.aload_n 0, 1) := by decide +kernel
theorem dX6_hasRegion_15 : decode cX6_hasRegion 15 = .ok (.iload_n 1, 1) := by decide +kernel
theorem dX6_hasRegion_16 : decode cX6_hasRegion 16 = .ok (.bipush 52, 2) := by decide +kernel
theorem dX6_hasRegion_18 : decode cX6_hasRegion 18 = .ok (.iload_n 3, 1) := by decide +kernel
theorem dX6_hasRegion_19 : decode cX6_hasRegion 19 = .ok (.iadd, 1) := by decide +kernel
theorem dX6_hasRegion_20 : decode cX6_hasRegion 20 = .ok (.invokevirtual 97, 3) := by decide +kernel
theorem dX6_hasRegion_23 : decode cX6_hasRegion 23 = .ok (.aload_n 0, 1) := by decide +kernel
theorem dX6_hasRegion_24 : decode cX6_hasRegion 24 = .ok (.getfield 19, 3) := by decide +kernel
theorem dX6_hasRegion_27 : decode cX6_hasRegion 27 = .ok (.iload_n 3, 1) := by decide +kernel
theorem dX6_hasRegion_28 : decode cX6_hasRegion 28 = .ok (.iaload, 1) := by decide +kernel
theorem dX6_hasRegion_29 : decode cX6_hasRegion 29 = .ok (.if_icmp .ne 25, 3) := by decide +kernel
theorem dX6_hasRegion_32 : decode cX6_hasRegion 32 = .ok (.aload_n 0, 1) := by decide +kernel
theorem dX6_hasRegion_33 : decode cX6_hasRegion 33 = .ok (.iload_n 1, 1) := by decide +kernel
theorem dX6_hasRegion_34 : decode cX6_hasRegion 34 = .ok (.bipush 59, 2) := by decide +kernel
theorem dX6_hasRegion_36 : decode cX6_hasRegion 36 = .ok (.iload_n 3, 1) := by decide +kernel
theorem dX6_hasRegion_37 : decode cX6_hasRegion 37 = .ok (.iadd, 1) := by decide +kernel
theorem dX6_hasRegion_38 : decode cX6_hasRegion 38 = .ok (.invokevirtual 97, 3) := by decide +kernel
theorem dX6_hasRegion_41 : decode cX6_hasRegion 41 = .ok (.aload_n 0, 1) := by decide +kernel
theorem dX6_hasRegion_42 : decode cX6_hasRegion 42 = .ok (.getfield 22, 3) := by decide +kernel
theorem dX6_hasRegion_45 : decode cX6_hasRegion 45 = .ok (.iload_n 3, 1) := by decide +kernel
theorem dX6_hasRegion_46 : decode cX6_hasRegion 46 = .ok (.iaload, 1) := by decide +kernel
theorem dX6_hasRegion_47 : decode cX6_hasRegion 47 = .ok (.if_icmp .ne 7, 3) := by decide +kernel
theorem dX6_hasRegion_50 : decode cX6_hasRegion 50 = .ok (.iconst 1, 1) := by decide +kernel
theorem dX6_hasRegion_51 : decode cX6_hasRegion 51 = .ok (.goto 4, 3) := by decide +kernel
theorem dX6_hasRegion_54 : decode cX6_hasRegion 54 = .ok (.iconst 0, 1) := by decide +kernel
theorem dX6_hasRegion_55 : decode cX6_hasRegion 55 = .ok (.istore_n 2, 1) := by decide +kernel
theorem dX6_hasRegion_56 : decode cX6_hasRegion 56 = .ok (.iinc 3 1, 3) := by decide +kernel
theorem dX6_hasRegion_59 : decode cX6_hasRegion 59 = .ok (.goto (-55), 3) := by decide +kernel
theorem dX6_hasRegion_62 : decode cX6_hasRegion 62 = .ok (.iload_n 2, 1) := by decide +kernel
theorem dX6_hasRegion_63 : decode cX6_hasRegion 63 = .ok (.ireturn, 1) := by decide +kernel
set_option maxRecDepth 20000 in
theorem ggX6_contradict_X6_of : GoodIn wsX6_contradict wsX6_of := goodIn_r _ [6, 1, 31, 32, 33, 34, 35, 36, 37, 38, 39, 40, 41, 42, 43, 44] (by decide +kernel) (by decide +kernel)
set_option maxRecDepth 20000 in
theorem gX6_contradict_X6_of : GoodIn wsX6_contradict (wsV RX6 97 RX6 yX6_of wsX6_of) := goodIn_app (goodIn_of _ (by decide +kernel)) ggX6_contradict_X6_of
set_option maxRecDepth 20000 in
theorem ggX6_contradict_X6_isStrictly : GoodIn wsX6_contradict wsX6_isStrictly := goodIn_r _ [10, 11, 12, 13, 5, 14, 2, 3, 4, 6, 1, 31, 32, 33, 34, 35, 36, 37, 38, 39, 40, 41, 42, 43, 44] (by decide +kernel) (by decide +kernel)
set_option maxRecDepth 20000 in
theorem gX6_contradict_X6_isStrictly : GoodIn wsX6_contradict (wsV RX6 189 RX6 yX6_isStrictly wsX6_isStrictly) := goodIn_app (goodIn_of _ (by decide +kernel)) ggX6_contradict_X6_isStrictly
set_option maxRecDepth 20000 in
theorem ggX6_contradict_X6_meet : GoodIn wsX6_contradict wsX6_meet := goodIn_r _ [18, 19, 20, 2, 3, 4, 5, 6, 1, 21, 22, 23, 24, 25, 26, 31, 32, 33, 34, 35, 36, 37, 38, 39, 40, 41, 42, 43, 44] (by decide +kernel) (by decide +kernel)
set_option maxRecDepth 20000 in
theorem gX6_contradict_X6_meet : GoodIn wsX6_contradict (wsV RX6 208 RX6 yX6_meet wsX6_meet) := goodIn_app (goodIn_of _ (by decide +kernel)) ggX6_contradict_X6_meet
set_option maxRecDepth 20000 in
theorem ggX6_contradict_X6_hasRegion : GoodIn wsX6_contradict wsX6_hasRegion := goodIn_r _ [30, 19, 20, 2, 3, 4, 5, 6, 1, 31, 32, 33, 34, 35, 36, 37, 38, 39, 40, 41, 42, 43, 44] (by decide +kernel) (by decide +kernel)
set_option maxRecDepth 20000 in
theorem gX6_contradict_X6_hasRegion : GoodIn wsX6_contradict (wsV RX6 211 RX6 yX6_hasRegion wsX6_hasRegion) := goodIn_app (goodIn_of _ (by decide +kernel)) ggX6_contradict_X6_hasRegion
theorem dX6_contradict_0 : decode cX6_contradict 0 = .ok (.aload_n 0, 1) := by decide +kernel
theorem dX6_contradict_1 : decode cX6_contradict 1 = .ok (.iload_n 1, 1) := by decide +kernel
theorem dX6_contradict_2 : decode cX6_contradict 2 = .ok (.bipush 49, 2) := by decide +kernel
theorem dX6_contradict_4 : decode cX6_contradict 4 = .ok (.invokevirtual 97, 3) := by decide +kernel
theorem dX6_contradict_7 : decode cX6_contradict 7 = .ok (.istore_n 3, 1) := by decide +kernel
theorem dX6_contradict_8 : decode cX6_contradict 8 = .ok (.iload_n 3, 1) := by decide +kernel
theorem dX6_contradict_9 : decode cX6_contradict 9 = .ok (.bipush 10, 2) := by decide +kernel
theorem dX6_contradict_11 : decode cX6_contradict 11 = .ok (.if_icmp .ge 58, 3) := by decide +kernel
theorem dX6_contradict_14 : decode cX6_contradict 14 = .ok (.aload_n 0, 1) := by decide +kernel
theorem dX6_contradict_15 : decode cX6_contradict 15 = .ok (.iload_n 2, 1) := by decide +kernel
theorem dX6_contradict_16 : decode cX6_contradict 16 = .ok (.bipush 49, 2) := by decide +kernel
theorem dX6_contradict_18 : decode cX6_contradict 18 = .ok (.invokevirtual 97, 3) := by decide +kernel
theorem dX6_contradict_21 : decode cX6_contradict 21 = .ok (.iload_n 3, 1) := by decide +kernel
theorem dX6_contradict_22 : decode cX6_contradict 22 = .ok (.if_icmp .ne 47, 3) := by decide +kernel
theorem dX6_contradict_25 : decode cX6_contradict 25 = .ok (.aload_n 0, 1) := by decide +kernel
theorem dX6_contradict_26 : decode cX6_contradict 26 = .ok (.iload_n 1, 1) := by decide +kernel
theorem dX6_contradict_27 : decode cX6_contradict 27 = .ok (.bipush 50, 2) := by decide +kernel
theorem dX6_contradict_29 : decode cX6_contradict 29 = .ok (.invokevirtual 97, 3) := by decide +kernel
theorem dX6_contradict_32 : decode cX6_contradict 32 = .ok (.aload_n 0, 1) := by decide +kernel
theorem dX6_contradict_33 : decode cX6_contradict 33 = .ok (.iload_n 2, 1) := by decide +kernel
theorem dX6_contradict_34 : decode cX6_contradict 34 = .ok (.bipush 50, 2) := by decide +kernel
theorem dX6_contradict_36 : decode cX6_contradict 36 = .ok (.invokevirtual 97, 3) := by decide +kernel
theorem dX6_contradict_39 : decode cX6_contradict 39 = .ok (.if_icmp .eq 30, 3) := by decide +kernel
theorem dX6_contradict_42 : decode cX6_contradict 42 = .ok (.aload_n 0, 1) := by decide +kernel
theorem dX6_contradict_43 : decode cX6_contradict 43 = .ok (.iload_n 1, 1) := by decide +kernel
theorem dX6_contradict_44 : decode cX6_contradict 44 = .ok (.iload_n 2, 1) := by decide +kernel
theorem dX6_contradict_45 : decode cX6_contradict 45 = .ok (.invokevirtual 189, 3) := by decide +kernel
theorem dX6_contradict_48 : decode cX6_contradict 48 = .ok (.ifCond .ne 21, 3) := by decide +kernel
theorem dX6_contradict_51 : decode cX6_contradict 51 = .ok (.aload_n 0, 1) := by decide +kernel
theorem dX6_contradict_52 : decode cX6_contradict 52 = .ok (.iload_n 2, 1) := by decide +kernel
theorem dX6_contradict_53 : decode cX6_contradict 53 = .ok (.iload_n 1, 1) := by decide +kernel
theorem dX6_contradict_54 : decode cX6_contradict 54 = .ok (.invokevirtual 189, 3) := by decide +kernel
theorem dX6_contradict_57 : decode cX6_contradict 57 = .ok (.ifCond .ne 12, 3) := by decide +kernel
theorem dX6_contradict_60 : decode cX6_contradict 60 = .ok (.aload_n 0, 1) := by decide +kernel
theorem dX6_contradict_61 : decode cX6_contradict 61 = .ok (.iload_n 1, 1) := by decide +kernel
theorem dX6_contradict_62 : decode cX6_contradict 62 = .ok (.iload_n 2, 1) := by decide +kernel
theorem dX6_contradict_63 : decode cX6_contradict 63 = .ok (.invokevirtual 208, 3) := by decide +kernel
theorem dX6_contradict_66 : decode cX6_contradict 66 = .ok (.ifCond .ne 5, 3) := by decide +kernel
theorem dX6_contradict_69 : decode cX6_contradict 69 = .ok (.iconst 0, 1) := by decide +kernel
theorem dX6_contradict_70 : decode cX6_contradict 70 = .ok (.ireturn, 1) := by decide +kernel
theorem dX6_contradict_71 : decode cX6_contradict 71 = .ok (.iconst 0, 1) := by decide +kernel
theorem dX6_contradict_72 : decode cX6_contradict 72 = .ok (.istore 4, 2) := by decide +kernel
theorem dX6_contradict_74 : decode cX6_contradict 74 = .ok (.iload 4, 2) := by decide +kernel
theorem dX6_contradict_76 : decode cX6_contradict 76 = .ok (.aload_n 0, 1) := by decide +kernel
theorem dX6_contradict_77 : decode cX6_contradict 77 = .ok (.getfield 7, 3) := by decide +kernel
theorem dX6_contradict_80 : decode cX6_contradict 80 = .ok (.bipush 56, 2) := by decide +kernel
theorem dX6_contradict_82 : decode cX6_contradict 82 = .ok (.iaload, 1) := by decide +kernel
theorem dX6_contradict_83 : decode cX6_contradict 83 = .ok (.if_icmp .ge 32, 3) := by decide +kernel
theorem dX6_contradict_86 : decode cX6_contradict 86 = .ok (.aload_n 0, 1) := by decide +kernel
theorem dX6_contradict_87 : decode cX6_contradict 87 = .ok (.iload 4, 2) := by decide +kernel
theorem dX6_contradict_89 : decode cX6_contradict 89 = .ok (.bipush 49, 2) := by decide +kernel
theorem dX6_contradict_91 : decode cX6_contradict 91 = .ok (.invokevirtual 97, 3) := by decide +kernel
theorem dX6_contradict_94 : decode cX6_contradict 94 = .ok (.iload_n 3, 1) := by decide +kernel
theorem dX6_contradict_95 : decode cX6_contradict 95 = .ok (.if_icmp .ne 14, 3) := by decide +kernel
theorem dX6_contradict_98 : decode cX6_contradict 98 = .ok (.aload_n 0, 1) := by decide +kernel
theorem dX6_contradict_99 : decode cX6_contradict 99 = .ok (.iload 4, 2) := by decide +kernel
theorem dX6_contradict_101 : decode cX6_contradict 101 = .ok (.invokevirtual 211, 3) := by decide +kernel
theorem dX6_contradict_104 : decode cX6_contradict 104 = .ok (.ifCond .eq 5, 3) := by decide +kernel
theorem dX6_contradict_107 : decode cX6_contradict 107 = .ok (.iconst 0, 1) := by decide +kernel
theorem dX6_contradict_108 : decode cX6_contradict 108 = .ok (.ireturn, 1) := by decide +kernel
theorem dX6_contradict_109 : decode cX6_contradict 109 = .ok (.iinc 4 1, 3) := by decide +kernel
theorem dX6_contradict_112 : decode cX6_contradict 112 = .ok (.goto (-38), 3) := by decide +kernel
theorem dX6_contradict_115 : decode cX6_contradict 115 = .ok (.iconst 1, 1) := by decide +kernel
theorem dX6_contradict_116 : decode cX6_contradict 116 = .ok (.ireturn, 1) := by decide +kernel
set_option maxRecDepth 20000 in
theorem ggX6_contradiction_X6_contradict : GoodIn wsX6_contradiction wsX6_contradict := goodIn_r _ [8, 2, 9, 10, 11, 7, 12, 13, 14, 15, 16, 17, 18, 19, 20, 21, 22, 23, 24, 25, 26, 27, 28, 29, 30, 31, 32, 33, 34, 35, 36, 37, 38, 39, 40, 41, 42, 43, 44, 45, 46, 47, 48, 49, 50] (by decide +kernel) (by decide +kernel)
set_option maxRecDepth 20000 in
theorem gX6_contradiction_X6_contradict : GoodIn wsX6_contradiction (wsV RX6 214 RX6 yX6_contradict wsX6_contradict) := goodIn_app (goodIn_of _ (by decide +kernel)) ggX6_contradiction_X6_contradict
theorem dX6_contradiction_0 : decode cX6_contradiction 0 = .ok (.iload_n 1, 1) := by decide +kernel
theorem dX6_contradiction_1 : decode cX6_contradiction 1 = .ok (.ifCond .ge 6, 3) := by decide +kernel
theorem dX6_contradiction_4 : decode cX6_contradiction 4 = .ok (.ldc 64, 2) := by decide +kernel
theorem dX6_contradiction_6 : decode cX6_contradiction 6 = .ok (.ireturn, 1) := by decide +kernel
theorem dX6_contradiction_7 : decode cX6_contradiction 7 = .ok (.iconst 0, 1) := by decide +kernel
theorem dX6_contradiction_8 : decode cX6_contradiction 8 = .ok (.istore_n 2, 1) := by decide +kernel
theorem dX6_contradiction_9 : decode cX6_contradiction 9 = .ok (.iconst 0, 1) := by decide +kernel
theorem dX6_contradiction_10 : decode cX6_contradiction 10 = .ok (.istore_n 3, 1) := by decide +kernel
theorem dX6_contradiction_11 : decode cX6_contradiction 11 = .ok (.iload_n 3, 1) := by decide +kernel
theorem dX6_contradiction_12 : decode cX6_contradiction 12 = .ok (.aload_n 0, 1) := by decide +kernel
theorem dX6_contradiction_13 : decode cX6_contradiction 13 = .ok (.getfield 7, 3) := by decide +kernel
theorem dX6_contradiction_16 : decode cX6_contradiction 16 = .ok (.bipush 56, 2) := by decide +kernel
theorem dX6_contradiction_18 : decode cX6_contradiction 18 = .ok (.iaload, 1) := by decide +kernel
theorem dX6_contradiction_19 : decode cX6_contradiction 19 = .ok (.if_icmp .ge 58, 3) := by decide +kernel
theorem dX6_contradiction_22 : decode cX6_contradiction 22 = .ok (.iload_n 3, 1) := by decide +kernel
theorem dX6_contradiction_23 : decode cX6_contradiction 23 = .ok (.iconst 1, 1) := by decide +kernel
theorem dX6_contradiction_24 : decode cX6_contradiction 24 = .ok (.iadd, 1) := by decide +kernel
theorem dX6_contradiction_25 : decode cX6_contradiction 25 = .ok (.istore 4, 2) := by decide +kernel
theorem dX6_contradiction_27 : decode cX6_contradiction 27 = .ok (.iload 4, 2) := by decide +kernel
theorem dX6_contradiction_29 : decode cX6_contradiction 29 = .ok (.aload_n 0, 1) := by decide +kernel
theorem dX6_contradiction_30 : decode cX6_contradiction 30 = .ok (.getfield 7, 3) := by decide +kernel
theorem dX6_contradiction_33 : decode cX6_contradiction 33 = .ok (.bipush 56, 2) := by decide +kernel
theorem dX6_contradiction_35 : decode cX6_contradiction 35 = .ok (.iaload, 1) := by decide +kernel
theorem dX6_contradiction_36 : decode cX6_contradiction 36 = .ok (.if_icmp .ge 35, 3) := by decide +kernel
theorem dX6_contradiction_39 : decode cX6_contradiction 39 = .ok (.aload_n 0, 1) := by decide +kernel
theorem dX6_contradiction_40 : decode cX6_contradiction 40 = .ok (.iload_n 3, 1) := by decide +kernel
theorem dX6_contradiction_41 : decode cX6_contradiction 41 = .ok (.iload 4, 2) := by decide +kernel
theorem dX6_contradiction_43 : decode cX6_contradiction 43 = .ok (.invokevirtual 214, 3) := by decide +kernel
theorem dX6_contradiction_46 : decode cX6_contradiction 46 = .ok (.ifCond .eq 19, 3) := by decide +kernel
theorem dX6_contradiction_49 : decode cX6_contradiction 49 = .ok (.iload_n 2, 1) := by decide +kernel
theorem dX6_contradiction_50 : decode cX6_contradiction 50 = .ok (.iload_n 1, 1) := by decide +kernel
theorem dX6_contradiction_51 : decode cX6_contradiction 51 = .ok (.if_icmp .ne 11, 3) := by decide +kernel
theorem dX6_contradiction_54 : decode cX6_contradiction 54 = .ok (.bipush 100, 2) := by decide +kernel
theorem dX6_contradiction_56 : decode cX6_contradiction 56 = .ok (.iload_n 3, 1) := by decide +kernel
theorem dX6_contradiction_57 : decode cX6_contradiction 57 = .ok (.imul, 1) := by decide +kernel
theorem dX6_contradiction_58 : decode cX6_contradiction 58 = .ok (.iload 4, 2) := by decide +kernel
theorem dX6_contradiction_60 : decode cX6_contradiction 60 = .ok (.iadd, 1) := by decide +kernel
theorem dX6_contradiction_61 : decode cX6_contradiction 61 = .ok (.ireturn, 1) := by decide +kernel
theorem dX6_contradiction_62 : decode cX6_contradiction 62 = .ok (.iinc 2 1, 3) := by decide +kernel
theorem dX6_contradiction_65 : decode cX6_contradiction 65 = .ok (.iinc 4 1, 3) := by decide +kernel
theorem dX6_contradiction_68 : decode cX6_contradiction 68 = .ok (.goto (-41), 3) := by decide +kernel
theorem dX6_contradiction_71 : decode cX6_contradiction 71 = .ok (.iinc 3 1, 3) := by decide +kernel
theorem dX6_contradiction_74 : decode cX6_contradiction 74 = .ok (.goto (-63), 3) := by decide +kernel
theorem dX6_contradiction_77 : decode cX6_contradiction 77 = .ok (.ldc 28, 2) := by decide +kernel
theorem dX6_contradiction_79 : decode cX6_contradiction 79 = .ok (.ireturn, 1) := by decide +kernel
set_option maxRecDepth 20000 in
theorem ggX6_answerWith_X6_answerNow : GoodIn wsX6_answerWith wsX6_answerNow := goodIn_r _ [6, 7, 1, 8, 9, 10, 11, 5, 12, 13, 14, 15, 16, 17, 18, 19, 20, 21, 22, 23, 24, 25, 26, 27, 28, 29, 30, 31, 32, 33, 34, 35, 36, 37, 38, 39, 40, 41, 42, 43, 44, 45, 46, 47, 48, 49, 50] (by decide +kernel) (by decide +kernel)
set_option maxRecDepth 20000 in
theorem gX6_answerWith_X6_answerNow : GoodIn wsX6_answerWith (wsV RX6 199 RX6 yX6_answerNow wsX6_answerNow) := goodIn_app (goodIn_of _ (by decide +kernel)) ggX6_answerWith_X6_answerNow
theorem dX6_answerWith_0 : decode cX6_answerWith 0 = .ok (.aload_n 0, 1) := by decide +kernel
theorem dX6_answerWith_1 : decode cX6_answerWith 1 = .ok (.getfield 7, 3) := by decide +kernel
theorem dX6_answerWith_4 : decode cX6_answerWith 4 = .ok (.iload_n 2, 1) := by decide +kernel
theorem dX6_answerWith_5 : decode cX6_answerWith 5 = .ok (.iaload, 1) := by decide +kernel
theorem dX6_answerWith_6 : decode cX6_answerWith 6 = .ok (.istore 4, 2) := by decide +kernel
theorem dX6_answerWith_8 : decode cX6_answerWith 8 = .ok (.aload_n 0, 1) := by decide +kernel
theorem dX6_answerWith_9 : decode cX6_answerWith 9 = .ok (.getfield 7, 3) := by decide +kernel
theorem dX6_answerWith_12 : decode cX6_answerWith 12 = .ok (.iload_n 2, 1) := by decide +kernel
theorem dX6_answerWith_13 : decode cX6_answerWith 13 = .ok (.iload_n 3, 1) := by decide +kernel
theorem dX6_answerWith_14 : decode cX6_answerWith 14 = .ok (.iastore, 1) := by decide +kernel
theorem dX6_answerWith_15 : decode cX6_answerWith 15 = .ok (.aload_n 0, 1) := by decide +kernel
theorem dX6_answerWith_16 : decode cX6_answerWith 16 = .ok (.iload_n 1, 1) := by decide +kernel
theorem dX6_answerWith_17 : decode cX6_answerWith 17 = .ok (.invokevirtual 199, 3) := by decide +kernel
theorem dX6_answerWith_20 : decode cX6_answerWith 20 = .ok (.istore 5, 2) := by decide +kernel
theorem dX6_answerWith_22 : decode cX6_answerWith 22 = .ok (.aload_n 0, 1) := by decide +kernel
theorem dX6_answerWith_23 : decode cX6_answerWith 23 = .ok (.getfield 7, 3) := by decide +kernel
theorem dX6_answerWith_26 : decode cX6_answerWith 26 = .ok (.iload_n 2, 1) := by decide +kernel
theorem dX6_answerWith_27 : decode cX6_answerWith 27 = .ok (.iload 4, 2) := by decide +kernel
theorem dX6_answerWith_29 : decode cX6_answerWith 29 = .ok (.iastore, 1) := by decide +kernel
theorem dX6_answerWith_30 : decode cX6_answerWith 30 = .ok (.iload 5, 2) := by decide +kernel
theorem dX6_answerWith_32 : decode cX6_answerWith 32 = .ok (.ireturn, 1) := by decide +kernel
set_option maxRecDepth 20000 in
theorem ggX6_answerIf_X6_isResult : GoodIn wsX6_answerIf wsX6_isResult := goodIn_r _ [5, 6, 7, 4, 8] (by decide +kernel) (by decide +kernel)
set_option maxRecDepth 20000 in
theorem gX6_answerIf_X6_isResult : GoodIn wsX6_answerIf (va_wsS RX6 196 yX6_isResult wsX6_isResult) := goodIn_app (goodIn_of _ (by decide +kernel)) ggX6_answerIf_X6_isResult
set_option maxRecDepth 20000 in
theorem ggX6_answerIf_X6_isValue : GoodIn wsX6_answerIf wsX6_isValue := goodIn_r _ [11, 12, 13, 4, 14, 6, 7, 8, 15, 16, 17, 18, 19, 20, 21] (by decide +kernel) (by decide +kernel)
set_option maxRecDepth 20000 in
theorem gX6_answerIf_X6_isValue : GoodIn wsX6_answerIf (va_wsS RX6 152 yX6_isValue wsX6_isValue) := goodIn_app (goodIn_of _ (by decide +kernel)) ggX6_answerIf_X6_isValue
set_option maxRecDepth 20000 in
theorem ggX6_answerIf_X6_answerWith : GoodIn wsX6_answerIf wsX6_answerWith := goodIn_r _ [25, 26, 27, 28, 29, 4, 30, 31, 32, 33, 34, 35, 36, 37, 38, 39, 40, 41, 42, 43, 44, 45, 46, 47, 48, 49, 6, 7, 8, 50, 51, 52, 53, 54, 55, 56, 57, 58, 59, 60, 61, 62, 63, 64, 65, 66, 67, 68, 69, 70, 71] (by decide +kernel) (by decide +kernel)
set_option maxRecDepth 20000 in
theorem gX6_answerIf_X6_answerWith : GoodIn wsX6_answerIf (wsV RX6 217 RX6 yX6_answerWith wsX6_answerWith) := goodIn_app (goodIn_of _ (by decide +kernel)) ggX6_answerIf_X6_answerWith
theorem dX6_answerIf_0 : decode cX6_answerIf 0 = .ok (.iload_n 1, 1) := by decide +kernel
theorem dX6_answerIf_1 : decode cX6_answerIf 1 = .ok (.invokestatic 196, 3) := by decide +kernel
theorem dX6_answerIf_4 : decode cX6_answerIf 4 = .ok (.ifCond .eq 21, 3) := by decide +kernel
theorem dX6_answerIf_7 : decode cX6_answerIf 7 = .ok (.iload_n 2, 1) := by decide +kernel
theorem dX6_answerIf_8 : decode cX6_answerIf 8 = .ok (.iload_n 3, 1) := by decide +kernel
theorem dX6_answerIf_9 : decode cX6_answerIf 9 = .ok (.invokestatic 152, 3) := by decide +kernel
theorem dX6_answerIf_12 : decode cX6_answerIf 12 = .ok (.ifCond .eq 13, 3) := by decide +kernel
theorem dX6_answerIf_15 : decode cX6_answerIf 15 = .ok (.aload_n 0, 1) := by decide +kernel
theorem dX6_answerIf_16 : decode cX6_answerIf 16 = .ok (.iload_n 1, 1) := by decide +kernel
theorem dX6_answerIf_17 : decode cX6_answerIf 17 = .ok (.iload_n 2, 1) := by decide +kernel
theorem dX6_answerIf_18 : decode cX6_answerIf 18 = .ok (.iload_n 3, 1) := by decide +kernel
theorem dX6_answerIf_19 : decode cX6_answerIf 19 = .ok (.invokevirtual 217, 3) := by decide +kernel
theorem dX6_answerIf_22 : decode cX6_answerIf 22 = .ok (.goto 5, 3) := by decide +kernel
theorem dX6_answerIf_25 : decode cX6_answerIf 25 = .ok (.ldc 64, 2) := by decide +kernel
theorem dX6_answerIf_27 : decode cX6_answerIf 27 = .ok (.ireturn, 1) := by decide +kernel
set_option maxRecDepth 20000 in
theorem ggX6_border_X6_of : GoodIn wsX6_border wsX6_of := goodIn_r _ [7, 2, 12, 13, 14, 15, 16, 17, 18, 19, 20, 21, 22, 23, 24, 25] (by decide +kernel) (by decide +kernel)
set_option maxRecDepth 20000 in
theorem gX6_border_X6_of : GoodIn wsX6_border (wsV RX6 97 RX6 yX6_of wsX6_of) := goodIn_app (goodIn_of _ (by decide +kernel)) ggX6_border_X6_of
set_option maxRecDepth 20000 in
theorem ggX6_border_X6_greatestOf : GoodIn wsX6_border wsX6_greatestOf := goodIn_r _ [10, 11] (by decide +kernel) (by decide +kernel)
set_option maxRecDepth 20000 in
theorem gX6_border_X6_greatestOf : GoodIn wsX6_border (va_wsS RX6 116 yX6_greatestOf wsX6_greatestOf) := goodIn_app (goodIn_of _ (by decide +kernel)) ggX6_border_X6_greatestOf
theorem dX6_border_0 : decode cX6_border 0 = .ok (.ldc 28, 2) := by decide +kernel
theorem dX6_border_2 : decode cX6_border 2 = .ok (.istore_n 3, 1) := by decide +kernel
theorem dX6_border_3 : decode cX6_border 3 = .ok (.iconst 0, 1) := by decide +kernel
theorem dX6_border_4 : decode cX6_border 4 = .ok (.istore 4, 2) := by decide +kernel
theorem dX6_border_6 : decode cX6_border 6 = .ok (.iload 4, 2) := by decide +kernel
theorem dX6_border_8 : decode cX6_border 8 = .ok (.aload_n 0, 1) := by decide +kernel
theorem dX6_border_9 : decode cX6_border 9 = .ok (.getfield 7, 3) := by decide +kernel
theorem dX6_border_12 : decode cX6_border 12 = .ok (.bipush 56, 2) := by decide +kernel
theorem dX6_border_14 : decode cX6_border 14 = .ok (.iaload, 1) := by decide +kernel
theorem dX6_border_15 : decode cX6_border 15 = .ok (.if_icmp .ge 85, 3) := by decide +kernel
theorem dX6_border_18 : decode cX6_border 18 = .ok (.aload_n 0, 1) := by decide +kernel
theorem dX6_border_19 : decode cX6_border 19 = .ok (.iload 4, 2) := by decide +kernel
theorem dX6_border_21 : decode cX6_border 21 = .ok (.bipush 52, 2) := by decide +kernel
theorem dX6_border_23 : decode cX6_border 23 = .ok (.iload_n 1, 1) := by decide +kernel
theorem dX6_border_24 : decode cX6_border 24 = .ok (.iadd, 1) := by decide +kernel
theorem dX6_border_25 : decode cX6_border 25 = .ok (.invokevirtual 97, 3) := by decide +kernel
theorem dX6_border_28 : decode cX6_border 28 = .ok (.istore 5, 2) := by decide +kernel
theorem dX6_border_30 : decode cX6_border 30 = .ok (.aload_n 0, 1) := by decide +kernel
theorem dX6_border_31 : decode cX6_border 31 = .ok (.iload 4, 2) := by decide +kernel
theorem dX6_border_33 : decode cX6_border 33 = .ok (.bipush 59, 2) := by decide +kernel
theorem dX6_border_35 : decode cX6_border 35 = .ok (.iload_n 1, 1) := by decide +kernel
theorem dX6_border_36 : decode cX6_border 36 = .ok (.iadd, 1) := by decide +kernel
theorem dX6_border_37 : decode cX6_border 37 = .ok (.invokevirtual 97, 3) := by decide +kernel
theorem dX6_border_40 : decode cX6_border 40 = .ok (.iconst 1, 1) := by decide +kernel
theorem dX6_border_41 : decode cX6_border 41 = .ok (.iadd, 1) := by decide +kernel
theorem dX6_border_42 : decode cX6_border 42 = .ok (.istore 6, 2) := by decide +kernel
theorem dX6_border_44 : decode cX6_border 44 = .ok (.iload 5, 2) := by decide +kernel
theorem dX6_border_46 : decode cX6_border 46 = .ok (.iload_n 2, 1) := by decide +kernel
theorem dX6_border_47 : decode cX6_border 47 = .ok (.if_icmp .le 20, 3) := by decide +kernel
theorem dX6_border_50 : decode cX6_border 50 = .ok (.iload_n 3, 1) := by decide +kernel
theorem dX6_border_51 : decode cX6_border 51 = .ok (.ldc 28, 2) := by decide +kernel
theorem dX6_border_53 : decode cX6_border 53 = .ok (.if_icmp .eq 9, 3) := by decide +kernel
theorem dX6_border_56 : decode cX6_border 56 = .ok (.iload 5, 2) := by decide +kernel
theorem dX6_border_58 : decode cX6_border 58 = .ok (.iload_n 3, 1) := by decide +kernel
theorem dX6_border_59 : decode cX6_border 59 = .ok (.if_icmp .ge 8, 3) := by decide +kernel
theorem dX6_border_62 : decode cX6_border 62 = .ok (.iload 5, 2) := by decide +kernel
theorem dX6_border_64 : decode cX6_border 64 = .ok (.goto 4, 3) := by decide +kernel
theorem dX6_border_67 : decode cX6_border 67 = .ok (.iload_n 3, 1) := by decide +kernel
theorem dX6_border_68 : decode cX6_border 68 = .ok (.istore_n 3, 1) := by decide +kernel
theorem dX6_border_69 : decode cX6_border 69 = .ok (.iload 6, 2) := by decide +kernel
theorem dX6_border_71 : decode cX6_border 71 = .ok (.iload_n 2, 1) := by decide +kernel
theorem dX6_border_72 : decode cX6_border 72 = .ok (.if_icmp .le 20, 3) := by decide +kernel
theorem dX6_border_75 : decode cX6_border 75 = .ok (.iload_n 3, 1) := by decide +kernel
theorem dX6_border_76 : decode cX6_border 76 = .ok (.ldc 28, 2) := by decide +kernel
theorem dX6_border_78 : decode cX6_border 78 = .ok (.if_icmp .eq 9, 3) := by decide +kernel
theorem dX6_border_81 : decode cX6_border 81 = .ok (.iload 6, 2) := by decide +kernel
theorem dX6_border_83 : decode cX6_border 83 = .ok (.iload_n 3, 1) := by decide +kernel
theorem dX6_border_84 : decode cX6_border 84 = .ok (.if_icmp .ge 8, 3) := by decide +kernel
theorem dX6_border_87 : decode cX6_border 87 = .ok (.iload 6, 2) := by decide +kernel
theorem dX6_border_89 : decode cX6_border 89 = .ok (.goto 4, 3) := by decide +kernel
theorem dX6_border_92 : decode cX6_border 92 = .ok (.iload_n 3, 1) := by decide +kernel
theorem dX6_border_93 : decode cX6_border 93 = .ok (.istore_n 3, 1) := by decide +kernel
theorem dX6_border_94 : decode cX6_border 94 = .ok (.iinc 4 1, 3) := by decide +kernel
theorem dX6_border_97 : decode cX6_border 97 = .ok (.goto (-91), 3) := by decide +kernel
theorem dX6_border_100 : decode cX6_border 100 = .ok (.iload_n 3, 1) := by decide +kernel
theorem dX6_border_101 : decode cX6_border 101 = .ok (.ldc 28, 2) := by decide +kernel
theorem dX6_border_103 : decode cX6_border 103 = .ok (.if_icmp .eq 15, 3) := by decide +kernel
theorem dX6_border_106 : decode cX6_border 106 = .ok (.iload_n 3, 1) := by decide +kernel
theorem dX6_border_107 : decode cX6_border 107 = .ok (.iload_n 1, 1) := by decide +kernel
theorem dX6_border_108 : decode cX6_border 108 = .ok (.invokestatic 116, 3) := by decide +kernel
theorem dX6_border_111 : decode cX6_border 111 = .ok (.if_icmp .gt 7, 3) := by decide +kernel
theorem dX6_border_114 : decode cX6_border 114 = .ok (.iload_n 3, 1) := by decide +kernel
theorem dX6_border_115 : decode cX6_border 115 = .ok (.goto 5, 3) := by decide +kernel
theorem dX6_border_118 : decode cX6_border 118 = .ok (.ldc 28, 2) := by decide +kernel
theorem dX6_border_120 : decode cX6_border 120 = .ok (.ireturn, 1) := by decide +kernel
set_option maxRecDepth 20000 in
theorem ggX6_nextChange_X6_isResult : GoodIn wsX6_nextChange wsX6_isResult := goodIn_r _ [7, 8, 9, 6, 10] (by decide +kernel) (by decide +kernel)
set_option maxRecDepth 20000 in
theorem gX6_nextChange_X6_isResult : GoodIn wsX6_nextChange (va_wsS RX6 196 yX6_isResult wsX6_isResult) := goodIn_app (goodIn_of _ (by decide +kernel)) ggX6_nextChange_X6_isResult
set_option maxRecDepth 20000 in
theorem ggX6_nextChange_X6_isFact : GoodIn wsX6_nextChange wsX6_isFact := goodIn_r _ [13, 8, 9, 6, 10] (by decide +kernel) (by decide +kernel)
set_option maxRecDepth 20000 in
theorem gX6_nextChange_X6_isFact : GoodIn wsX6_nextChange (va_wsS RX6 149 yX6_isFact wsX6_isFact) := goodIn_app (goodIn_of _ (by decide +kernel)) ggX6_nextChange_X6_isFact
set_option maxRecDepth 20000 in
theorem ggX6_nextChange_X6_answerNow : GoodIn wsX6_nextChange wsX6_answerNow := goodIn_r _ [17, 3, 2, 18, 19, 20, 21, 6, 22, 23, 24, 25, 26, 27, 28, 29, 30, 31, 32, 33, 34, 35, 8, 9, 10, 36, 37, 38, 39, 40, 41, 42, 43, 56, 57, 58, 59, 60, 61, 62, 63, 64, 65, 66, 67, 68, 69] (by decide +kernel) (by decide +kernel)
set_option maxRecDepth 20000 in
theorem gX6_nextChange_X6_answerNow : GoodIn wsX6_nextChange (wsV RX6 199 RX6 yX6_answerNow wsX6_answerNow) := goodIn_app (goodIn_of _ (by decide +kernel)) ggX6_nextChange_X6_answerNow
set_option maxRecDepth 20000 in
theorem ggX6_nextChange_X6_border : GoodIn wsX6_nextChange wsX6_border := goodIn_r _ [47, 3, 2, 28, 29, 30, 6, 31, 48, 49, 50, 51, 56, 57, 58, 59, 60, 61, 62, 63, 64, 65, 66, 67, 68, 69] (by decide +kernel) (by decide +kernel)
set_option maxRecDepth 20000 in
theorem gX6_nextChange_X6_border : GoodIn wsX6_nextChange (wsV RX6 220 RX6 yX6_border wsX6_border) := goodIn_app (goodIn_of _ (by decide +kernel)) ggX6_nextChange_X6_border
set_option maxRecDepth 20000 in
theorem ggX6_nextChange_X6_answerWith : GoodIn wsX6_nextChange wsX6_answerWith := goodIn_r _ [55, 2, 14, 15, 16, 6, 17, 3, 18, 19, 20, 21, 22, 23, 24, 25, 26, 27, 28, 29, 30, 31, 32, 33, 34, 35, 8, 9, 10, 36, 37, 38, 39, 40, 41, 42, 43, 56, 57, 58, 59, 60, 61, 62, 63, 64, 65, 66, 67, 68, 69] (by decide +kernel) (by decide +kernel)
set_option maxRecDepth 20000 in
theorem gX6_nextChange_X6_answerWith : GoodIn wsX6_nextChange (wsV RX6 217 RX6 yX6_answerWith wsX6_answerWith) := goodIn_app (goodIn_of _ (by decide +kernel)) ggX6_nextChange_X6_answerWith
theorem dX6_nextChange_0 : decode cX6_nextChange 0 = .ok (.iload_n 1, 1) := by decide +kernel
theorem dX6_nextChange_1 : decode cX6_nextChange 1 = .ok (.invokestatic 196, 3) := by decide +kernel
theorem dX6_nextChange_4 : decode cX6_nextChange 4 = .ok (.ifCond .eq 10, 3) := by decide +kernel
theorem dX6_nextChange_7 : decode cX6_nextChange 7 = .ok (.iload_n 2, 1) := by decide +kernel
theorem dX6_nextChange_8 : decode cX6_nextChange 8 = .ok (.invokestatic 149, 3) := by decide +kernel
theorem dX6_nextChange_11 : decode cX6_nextChange 11 = .ok (.ifCond .ne 6, 3) := by decide +kernel
theorem dX6_nextChange_14 : decode cX6_nextChange 14 = .ok (.ldc 64, 2) := by decide +kernel
theorem dX6_nextChange_16 : decode cX6_nextChange 16 = .ok (.ireturn, 1) := by decide +kernel
theorem dX6_nextChange_17 : decode cX6_nextChange 17 = .ok (.aload_n 0, 1) := by decide +kernel
theorem dX6_nextChange_18 : decode cX6_nextChange 18 = .ok (.iload_n 1, 1) := by decide +kernel
theorem dX6_nextChange_19 : decode cX6_nextChange 19 = .ok (.invokevirtual 199, 3) := by decide +kernel
theorem dX6_nextChange_22 : decode cX6_nextChange 22 = .ok (.istore_n 3, 1) := by decide +kernel
theorem dX6_nextChange_23 : decode cX6_nextChange 23 = .ok (.aload_n 0, 1) := by decide +kernel
theorem dX6_nextChange_24 : decode cX6_nextChange 24 = .ok (.iload_n 2, 1) := by decide +kernel
theorem dX6_nextChange_25 : decode cX6_nextChange 25 = .ok (.aload_n 0, 1) := by decide +kernel
theorem dX6_nextChange_26 : decode cX6_nextChange 26 = .ok (.getfield 7, 3) := by decide +kernel
theorem dX6_nextChange_29 : decode cX6_nextChange 29 = .ok (.iload_n 2, 1) := by decide +kernel
theorem dX6_nextChange_30 : decode cX6_nextChange 30 = .ok (.iaload, 1) := by decide +kernel
theorem dX6_nextChange_31 : decode cX6_nextChange 31 = .ok (.invokevirtual 220, 3) := by decide +kernel
theorem dX6_nextChange_34 : decode cX6_nextChange 34 = .ok (.istore 4, 2) := by decide +kernel
theorem dX6_nextChange_36 : decode cX6_nextChange 36 = .ok (.iload 4, 2) := by decide +kernel
theorem dX6_nextChange_38 : decode cX6_nextChange 38 = .ok (.ldc 28, 2) := by decide +kernel
theorem dX6_nextChange_40 : decode cX6_nextChange 40 = .ok (.if_icmp .eq 27, 3) := by decide +kernel
theorem dX6_nextChange_43 : decode cX6_nextChange 43 = .ok (.aload_n 0, 1) := by decide +kernel
theorem dX6_nextChange_44 : decode cX6_nextChange 44 = .ok (.iload_n 1, 1) := by decide +kernel
theorem dX6_nextChange_45 : decode cX6_nextChange 45 = .ok (.iload_n 2, 1) := by decide +kernel
theorem dX6_nextChange_46 : decode cX6_nextChange 46 = .ok (.iload 4, 2) := by decide +kernel
theorem dX6_nextChange_48 : decode cX6_nextChange 48 = .ok (.invokevirtual 217, 3) := by decide +kernel
theorem dX6_nextChange_51 : decode cX6_nextChange 51 = .ok (.iload_n 3, 1) := by decide +kernel
theorem dX6_nextChange_52 : decode cX6_nextChange 52 = .ok (.if_icmp .ne 15, 3) := by decide +kernel
theorem dX6_nextChange_55 : decode cX6_nextChange 55 = .ok (.aload_n 0, 1) := by decide +kernel
theorem dX6_nextChange_56 : decode cX6_nextChange 56 = .ok (.iload_n 2, 1) := by decide +kernel
theorem dX6_nextChange_57 : decode cX6_nextChange 57 = .ok (.iload 4, 2) := by decide +kernel
theorem dX6_nextChange_59 : decode cX6_nextChange 59 = .ok (.invokevirtual 220, 3) := by decide +kernel
theorem dX6_nextChange_62 : decode cX6_nextChange 62 = .ok (.istore 4, 2) := by decide +kernel
theorem dX6_nextChange_64 : decode cX6_nextChange 64 = .ok (.goto (-28), 3) := by decide +kernel
theorem dX6_nextChange_67 : decode cX6_nextChange 67 = .ok (.iload 4, 2) := by decide +kernel
theorem dX6_nextChange_69 : decode cX6_nextChange 69 = .ok (.ireturn, 1) := by decide +kernel
set_option maxRecDepth 20000 in
theorem ggX6_leastFor_X6_isResult : GoodIn wsX6_leastFor wsX6_isResult := goodIn_r _ [6, 7, 8, 5, 9] (by decide +kernel) (by decide +kernel)
set_option maxRecDepth 20000 in
theorem gX6_leastFor_X6_isResult : GoodIn wsX6_leastFor (va_wsS RX6 196 yX6_isResult wsX6_isResult) := goodIn_app (goodIn_of _ (by decide +kernel)) ggX6_leastFor_X6_isResult
set_option maxRecDepth 20000 in
theorem ggX6_leastFor_X6_isFact : GoodIn wsX6_leastFor wsX6_isFact := goodIn_r _ [12, 7, 8, 5, 9] (by decide +kernel) (by decide +kernel)
set_option maxRecDepth 20000 in
theorem gX6_leastFor_X6_isFact : GoodIn wsX6_leastFor (va_wsS RX6 149 yX6_isFact wsX6_isFact) := goodIn_app (goodIn_of _ (by decide +kernel)) ggX6_leastFor_X6_isFact
set_option maxRecDepth 20000 in
theorem ggX6_leastFor_X6_in : GoodIn wsX6_leastFor wsX6_in := goodIn_r _ [9] (by decide +kernel) (by decide +kernel)
set_option maxRecDepth 20000 in
theorem gX6_leastFor_X6_in : GoodIn wsX6_leastFor (va_wsS RX6 42 yX6_in wsX6_in) := goodIn_app (goodIn_of _ (by decide +kernel)) ggX6_leastFor_X6_in
set_option maxRecDepth 20000 in
theorem ggX6_leastFor_X6_leastOf : GoodIn wsX6_leastFor wsX6_leastOf := goodIn_r _ [15] (by decide +kernel) (by decide +kernel)
set_option maxRecDepth 20000 in
theorem gX6_leastFor_X6_leastOf : GoodIn wsX6_leastFor (va_wsS RX6 113 yX6_leastOf wsX6_leastOf) := goodIn_app (goodIn_of _ (by decide +kernel)) ggX6_leastFor_X6_leastOf
set_option maxRecDepth 20000 in
theorem ggX6_leastFor_X6_answerWith : GoodIn wsX6_leastFor wsX6_answerWith := goodIn_r _ [19, 20, 21, 22, 23, 5, 24, 2, 25, 26, 27, 28, 29, 30, 31, 32, 33, 34, 35, 36, 37, 38, 39, 40, 41, 42, 7, 8, 9, 43, 44, 45, 46, 47, 48, 49, 50, 59, 60, 61, 62, 63, 64, 65, 66, 67, 68, 69, 70, 71, 72] (by decide +kernel) (by decide +kernel)
set_option maxRecDepth 20000 in
theorem gX6_leastFor_X6_answerWith : GoodIn wsX6_leastFor (wsV RX6 217 RX6 yX6_answerWith wsX6_answerWith) := goodIn_app (goodIn_of _ (by decide +kernel)) ggX6_leastFor_X6_answerWith
set_option maxRecDepth 20000 in
theorem ggX6_leastFor_X6_border : GoodIn wsX6_leastFor wsX6_border := goodIn_r _ [54, 2, 20, 35, 36, 37, 5, 38, 55, 56, 57, 58, 59, 60, 61, 62, 63, 64, 65, 66, 67, 68, 69, 70, 71, 72] (by decide +kernel) (by decide +kernel)
set_option maxRecDepth 20000 in
theorem gX6_leastFor_X6_border : GoodIn wsX6_leastFor (wsV RX6 220 RX6 yX6_border wsX6_border) := goodIn_app (goodIn_of _ (by decide +kernel)) ggX6_leastFor_X6_border
theorem dX6_leastFor_0 : decode cX6_leastFor 0 = .ok (.iload_n 1, 1) := by decide +kernel
theorem dX6_leastFor_1 : decode cX6_leastFor 1 = .ok (.invokestatic 196, 3) := by decide +kernel
theorem dX6_leastFor_4 : decode cX6_leastFor 4 = .ok (.ifCond .eq 23, 3) := by decide +kernel
theorem dX6_leastFor_7 : decode cX6_leastFor 7 = .ok (.iload_n 2, 1) := by decide +kernel
theorem dX6_leastFor_8 : decode cX6_leastFor 8 = .ok (.invokestatic 149, 3) := by decide +kernel
theorem dX6_leastFor_11 : decode cX6_leastFor 11 = .ok (.ifCond .eq 16, 3) := by decide +kernel
theorem dX6_leastFor_14 : decode cX6_leastFor 14 = .ok (.iload_n 3, 1) := by decide +kernel
theorem dX6_leastFor_15 : decode cX6_leastFor 15 = .ok (.sipush (-9999), 3) := by decide +kernel
theorem dX6_leastFor_18 : decode cX6_leastFor 18 = .ok (.sipush 9999, 3) := by decide +kernel
theorem dX6_leastFor_21 : decode cX6_leastFor 21 = .ok (.invokestatic 42, 3) := by decide +kernel
theorem dX6_leastFor_24 : decode cX6_leastFor 24 = .ok (.ifCond .ne 6, 3) := by decide +kernel
theorem dX6_leastFor_27 : decode cX6_leastFor 27 = .ok (.ldc 64, 2) := by decide +kernel
theorem dX6_leastFor_29 : decode cX6_leastFor 29 = .ok (.ireturn, 1) := by decide +kernel
theorem dX6_leastFor_30 : decode cX6_leastFor 30 = .ok (.iload_n 2, 1) := by decide +kernel
theorem dX6_leastFor_31 : decode cX6_leastFor 31 = .ok (.invokestatic 113, 3) := by decide +kernel
theorem dX6_leastFor_34 : decode cX6_leastFor 34 = .ok (.istore 4, 2) := by decide +kernel
theorem dX6_leastFor_36 : decode cX6_leastFor 36 = .ok (.iload 4, 2) := by decide +kernel
theorem dX6_leastFor_38 : decode cX6_leastFor 38 = .ok (.ldc 28, 2) := by decide +kernel
theorem dX6_leastFor_40 : decode cX6_leastFor 40 = .ok (.if_icmp .eq 27, 3) := by decide +kernel
theorem dX6_leastFor_43 : decode cX6_leastFor 43 = .ok (.aload_n 0, 1) := by decide +kernel
theorem dX6_leastFor_44 : decode cX6_leastFor 44 = .ok (.iload_n 1, 1) := by decide +kernel
theorem dX6_leastFor_45 : decode cX6_leastFor 45 = .ok (.iload_n 2, 1) := by decide +kernel
theorem dX6_leastFor_46 : decode cX6_leastFor 46 = .ok (.iload 4, 2) := by decide +kernel
theorem dX6_leastFor_48 : decode cX6_leastFor 48 = .ok (.invokevirtual 217, 3) := by decide +kernel
theorem dX6_leastFor_51 : decode cX6_leastFor 51 = .ok (.iload_n 3, 1) := by decide +kernel
theorem dX6_leastFor_52 : decode cX6_leastFor 52 = .ok (.if_icmp .eq 15, 3) := by decide +kernel
theorem dX6_leastFor_55 : decode cX6_leastFor 55 = .ok (.aload_n 0, 1) := by decide +kernel
theorem dX6_leastFor_56 : decode cX6_leastFor 56 = .ok (.iload_n 2, 1) := by decide +kernel
theorem dX6_leastFor_57 : decode cX6_leastFor 57 = .ok (.iload 4, 2) := by decide +kernel
theorem dX6_leastFor_59 : decode cX6_leastFor 59 = .ok (.invokevirtual 220, 3) := by decide +kernel
theorem dX6_leastFor_62 : decode cX6_leastFor 62 = .ok (.istore 4, 2) := by decide +kernel
theorem dX6_leastFor_64 : decode cX6_leastFor 64 = .ok (.goto (-28), 3) := by decide +kernel
theorem dX6_leastFor_67 : decode cX6_leastFor 67 = .ok (.iload 4, 2) := by decide +kernel
theorem dX6_leastFor_69 : decode cX6_leastFor 69 = .ok (.ireturn, 1) := by decide +kernel
set_option maxRecDepth 20000 in
theorem ggX6_matters_X6_isSentence : GoodIn wsX6_matters wsX6_isSentence := goodIn_r _ [8, 9, 10, 11, 7, 12, 42, 43, 44, 45, 46, 47, 48, 49, 50, 51, 52, 53, 54, 55] (by decide +kernel) (by decide +kernel)
set_option maxRecDepth 20000 in
theorem gX6_matters_X6_isSentence : GoodIn wsX6_matters (wsV RX6 142 RX6 yX6_isSentence wsX6_isSentence) := goodIn_app (goodIn_of _ (by decide +kernel)) ggX6_matters_X6_isSentence
set_option maxRecDepth 20000 in
theorem ggX6_matters_X6_of : GoodIn wsX6_matters wsX6_of := goodIn_r _ [16, 9, 42, 43, 44, 45, 46, 47, 48, 49, 50, 51, 52, 53, 54, 55] (by decide +kernel) (by decide +kernel)
set_option maxRecDepth 20000 in
theorem gX6_matters_X6_of : GoodIn wsX6_matters (wsV RX6 97 RX6 yX6_of wsX6_of) := goodIn_app (goodIn_of _ (by decide +kernel)) ggX6_matters_X6_of
set_option maxRecDepth 20000 in
theorem ggX6_matters_X6_answerNow : GoodIn wsX6_matters wsX6_answerNow := goodIn_r _ [20, 3, 9, 21, 22, 23, 24, 7, 25, 26, 27, 28, 29, 2, 13, 14, 15, 16, 30, 31, 32, 33, 10, 11, 12, 34, 35, 36, 37, 38, 39, 40, 41, 42, 43, 44, 45, 46, 47, 48, 49, 50, 51, 52, 53, 54, 55] (by decide +kernel) (by decide +kernel)
set_option maxRecDepth 20000 in
theorem gX6_matters_X6_answerNow : GoodIn wsX6_matters (wsV RX6 199 RX6 yX6_answerNow wsX6_answerNow) := goodIn_app (goodIn_of _ (by decide +kernel)) ggX6_matters_X6_answerNow
theorem dX6_matters_0 : decode cX6_matters 0 = .ok (.aload_n 0, 1) := by decide +kernel
theorem dX6_matters_1 : decode cX6_matters 1 = .ok (.iload_n 1, 1) := by decide +kernel
theorem dX6_matters_2 : decode cX6_matters 2 = .ok (.invokevirtual 142, 3) := by decide +kernel
theorem dX6_matters_5 : decode cX6_matters 5 = .ok (.ifCond .ne 6, 3) := by decide +kernel
theorem dX6_matters_8 : decode cX6_matters 8 = .ok (.ldc 145, 2) := by decide +kernel
theorem dX6_matters_10 : decode cX6_matters 10 = .ok (.ireturn, 1) := by decide +kernel
theorem dX6_matters_11 : decode cX6_matters 11 = .ok (.aload_n 0, 1) := by decide +kernel
theorem dX6_matters_12 : decode cX6_matters 12 = .ok (.iload_n 1, 1) := by decide +kernel
theorem dX6_matters_13 : decode cX6_matters 13 = .ok (.bipush 49, 2) := by decide +kernel
theorem dX6_matters_15 : decode cX6_matters 15 = .ok (.invokevirtual 97, 3) := by decide +kernel
theorem dX6_matters_18 : decode cX6_matters 18 = .ok (.istore_n 2, 1) := by decide +kernel
theorem dX6_matters_19 : decode cX6_matters 19 = .ok (.iload_n 2, 1) := by decide +kernel
theorem dX6_matters_20 : decode cX6_matters 20 = .ok (.bipush 10, 2) := by decide +kernel
theorem dX6_matters_22 : decode cX6_matters 22 = .ok (.if_icmp .lt 5, 3) := by decide +kernel
theorem dX6_matters_25 : decode cX6_matters 25 = .ok (.iconst 0, 1) := by decide +kernel
theorem dX6_matters_26 : decode cX6_matters 26 = .ok (.ireturn, 1) := by decide +kernel
theorem dX6_matters_27 : decode cX6_matters 27 = .ok (.aload_n 0, 1) := by decide +kernel
theorem dX6_matters_28 : decode cX6_matters 28 = .ok (.iload_n 2, 1) := by decide +kernel
theorem dX6_matters_29 : decode cX6_matters 29 = .ok (.invokevirtual 199, 3) := by decide +kernel
theorem dX6_matters_32 : decode cX6_matters 32 = .ok (.istore_n 3, 1) := by decide +kernel
theorem dX6_matters_33 : decode cX6_matters 33 = .ok (.aload_n 0, 1) := by decide +kernel
theorem dX6_matters_34 : decode cX6_matters 34 = .ok (.iload_n 1, 1) := by decide +kernel
theorem dX6_matters_35 : decode cX6_matters 35 = .ok (.putfield 29, 3) := by decide +kernel
theorem dX6_matters_38 : decode cX6_matters 38 = .ok (.aload_n 0, 1) := by decide +kernel
theorem dX6_matters_39 : decode cX6_matters 39 = .ok (.iload_n 2, 1) := by decide +kernel
theorem dX6_matters_40 : decode cX6_matters 40 = .ok (.invokevirtual 199, 3) := by decide +kernel
theorem dX6_matters_43 : decode cX6_matters 43 = .ok (.istore 4, 2) := by decide +kernel
theorem dX6_matters_45 : decode cX6_matters 45 = .ok (.aload_n 0, 1) := by decide +kernel
theorem dX6_matters_46 : decode cX6_matters 46 = .ok (.ldc 28, 2) := by decide +kernel
theorem dX6_matters_48 : decode cX6_matters 48 = .ok (.putfield 29, 3) := by decide +kernel
theorem dX6_matters_51 : decode cX6_matters 51 = .ok (.iload_n 3, 1) := by decide +kernel
theorem dX6_matters_52 : decode cX6_matters 52 = .ok (.iload 4, 2) := by decide +kernel
theorem dX6_matters_54 : decode cX6_matters 54 = .ok (.if_icmp .ne 7, 3) := by decide +kernel
theorem dX6_matters_57 : decode cX6_matters 57 = .ok (.iconst 0, 1) := by decide +kernel
theorem dX6_matters_58 : decode cX6_matters 58 = .ok (.goto 4, 3) := by decide +kernel
theorem dX6_matters_61 : decode cX6_matters 61 = .ok (.iconst 1, 1) := by decide +kernel
theorem dX6_matters_62 : decode cX6_matters 62 = .ok (.ireturn, 1) := by decide +kernel
set_option maxRecDepth 20000 in
theorem ggJ5_init_d00df_J2_newBytesFor_77867 : GoodIn wsJ5_init_d00df wsJ2_newBytesFor_77867 := goodIn_r _ [11, 5, 12, 13, 10, 14, 15] (by decide +kernel) (by decide +kernel)
set_option maxRecDepth 20000 in
theorem gJ5_init_d00df_J2_newBytesFor_77867 : GoodIn wsJ5_init_d00df (va_wsS RJ5 26 yJ2_newBytesFor_77867 wsJ2_newBytesFor_77867) := goodIn_app (goodIn_of _ (by decide +kernel)) ggJ5_init_d00df_J2_newBytesFor_77867
theorem dJ5_init_d00df_0 : decode cJ5_init_d00df 0 = .ok (.aload_n 0, 1) := by decide +kernel
theorem dJ5_init_d00df_1 : decode cJ5_init_d00df 1 = .ok (.invokespecial 3, 3) := by decide +kernel
theorem dJ5_init_d00df_4 : decode cJ5_init_d00df 4 = .ok (.getstatic 18, 3) := by decide +kernel
theorem dJ5_init_d00df_7 : decode cJ5_init_d00df 7 = .ok (.ifCond .eq 18, 3) := by decide +kernel
theorem dJ5_init_d00df_10 : decode cJ5_init_d00df 10 = .ok (.aload_n 0, 1) := by decide +kernel
theorem dJ5_init_d00df_11 : decode cJ5_init_d00df 11 = .ok (.iload_n 1, 1) := by decide +kernel
theorem dJ5_init_d00df_12 : decode cJ5_init_d00df 12 = .ok (.newarray .byte, 2) := by decide +kernel
theorem dJ5_init_d00df_14 : decode cJ5_init_d00df 14 = .ok (.putfield 15, 3) := by decide +kernel
theorem dJ5_init_d00df_17 : decode cJ5_init_d00df 17 = .ok (.aload_n 0, 1) := by decide +kernel
theorem dJ5_init_d00df_18 : decode cJ5_init_d00df 18 = .ok (.iconst 0, 1) := by decide +kernel
theorem dJ5_init_d00df_19 : decode cJ5_init_d00df 19 = .ok (.putfield 22, 3) := by decide +kernel
theorem dJ5_init_d00df_22 : decode cJ5_init_d00df 22 = .ok (.goto 16, 3) := by decide +kernel
theorem dJ5_init_d00df_25 : decode cJ5_init_d00df 25 = .ok (.aload_n 0, 1) := by decide +kernel
theorem dJ5_init_d00df_26 : decode cJ5_init_d00df 26 = .ok (.iload_n 1, 1) := by decide +kernel
theorem dJ5_init_d00df_27 : decode cJ5_init_d00df 27 = .ok (.invokestatic 26, 3) := by decide +kernel
theorem dJ5_init_d00df_30 : decode cJ5_init_d00df 30 = .ok (.putfield 15, 3) := by decide +kernel
theorem dJ5_init_d00df_33 : decode cJ5_init_d00df 33 = .ok (.aload_n 0, 1) := by decide +kernel
theorem dJ5_init_d00df_34 : decode cJ5_init_d00df 34 = .ok (.iconst 1, 1) := by decide +kernel
theorem dJ5_init_d00df_35 : decode cJ5_init_d00df 35 = .ok (.putfield 22, 3) := by decide +kernel
theorem dJ5_init_d00df_38 : decode cJ5_init_d00df 38 = .ok (.return_, 1) := by decide +kernel
theorem dJ5_length_8abf5_0 : decode cJ5_length_8abf5 0 = .ok (.aload_n 0, 1) := by decide +kernel
theorem dJ5_length_8abf5_1 : decode cJ5_length_8abf5 1 = .ok (.getfield 79, 3) := by decide +kernel
theorem dJ5_length_8abf5_4 : decode cJ5_length_8abf5 4 = .ok (.ireturn, 1) := by decide +kernel
set_option maxRecDepth 20000 in
theorem ggJ5_ensureCapacityInternal_d00df_J5_newCapacity_0f7a4 : GoodIn wsJ5_ensureCapacityInternal_d00df wsJ5_newCapacity_0f7a4 := goodIn_r _ [8, 1, 2, 9, 10, 11, 12, 13, 14, 15, 16, 17, 18, 19, 20, 21, 40, 41, 42, 43] (by decide +kernel) (by decide +kernel)
set_option maxRecDepth 20000 in
theorem gJ5_ensureCapacityInternal_d00df_J5_newCapacity_0f7a4_u104J4 : GoodIn wsJ5_ensureCapacityInternal_d00df (va_wsU RJ5 104 RJ4 "java/lang/AbstractStringBuilder" ⟨"java/lang/AbstractStringBuilder", "newCapacity", "(I)I"⟩ yJ5_newCapacity_0f7a4 wsJ5_newCapacity_0f7a4) := goodIn_app (goodIn_of _ (by decide +kernel)) ggJ5_ensureCapacityInternal_d00df_J5_newCapacity_0f7a4
set_option maxRecDepth 20000 in
theorem ggJ5_ensureCapacityInternal_d00df_J7_copyOf_9075b : GoodIn wsJ5_ensureCapacityInternal_d00df wsJ7_copyOf_9075b := goodIn_r _ [25, 26, 27, 28, 29, 30, 31, 32, 33, 34, 16, 35, 36, 37, 38, 39] (by decide +kernel) (by decide +kernel)
set_option maxRecDepth 20000 in
theorem gJ5_ensureCapacityInternal_d00df_J7_copyOf_9075b : GoodIn wsJ5_ensureCapacityInternal_d00df (va_wsS RJ5 108 yJ7_copyOf_9075b wsJ7_copyOf_9075b) := goodIn_app (goodIn_of _ (by decide +kernel)) ggJ5_ensureCapacityInternal_d00df_J7_copyOf_9075b
theorem dJ5_ensureCapacityInternal_d00df_0 : decode cJ5_ensureCapacityInternal_d00df 0 = .ok (.aload_n 0, 1) := by decide +kernel
theorem dJ5_ensureCapacityInternal_d00df_1 : decode cJ5_ensureCapacityInternal_d00df 1 = .ok (.getfield 15, 3) := by decide +kernel
theorem dJ5_ensureCapacityInternal_d00df_4 : decode cJ5_ensureCapacityInternal_d00df 4 = .ok (.arraylength, 1) := by decide +kernel
theorem dJ5_ensureCapacityInternal_d00df_5 : decode cJ5_ensureCapacityInternal_d00df 5 = .ok (.aload_n 0, 1) := by decide +kernel
theorem dJ5_ensureCapacityInternal_d00df_6 : decode cJ5_ensureCapacityInternal_d00df 6 = .ok (.getfield 22, 3) := by decide +kernel
theorem dJ5_ensureCapacityInternal_d00df_9 : decode cJ5_ensureCapacityInternal_d00df 9 = .ok (.ishr, 1) := by decide +kernel
theorem dJ5_ensureCapacityInternal_d00df_10 : decode cJ5_ensureCapacityInternal_d00df 10 = .ok (.istore_n 2, 1) := by decide +kernel
theorem dJ5_ensureCapacityInternal_d00df_11 : decode cJ5_ensureCapacityInternal_d00df 11 = .ok (.iload_n 1, 1) := by decide +kernel
theorem dJ5_ensureCapacityInternal_d00df_12 : decode cJ5_ensureCapacityInternal_d00df 12 = .ok (.iload_n 2, 1) := by decide +kernel
theorem dJ5_ensureCapacityInternal_d00df_13 : decode cJ5_ensureCapacityInternal_d00df 13 = .ok (.isub, 1) := by decide +kernel
theorem dJ5_ensureCapacityInternal_d00df_14 : decode cJ5_ensureCapacityInternal_d00df 14 = .ok (.ifCond .le 24, 3) := by decide +kernel
theorem dJ5_ensureCapacityInternal_d00df_17 : decode cJ5_ensureCapacityInternal_d00df 17 = .ok (.aload_n 0, 1) := by decide +kernel
theorem dJ5_ensureCapacityInternal_d00df_18 : decode cJ5_ensureCapacityInternal_d00df 18 = .ok (.aload_n 0, 1) := by decide +kernel
theorem dJ5_ensureCapacityInternal_d00df_19 : decode cJ5_ensureCapacityInternal_d00df 19 = .ok (.getfield 15, 3) := by decide +kernel
theorem dJ5_ensureCapacityInternal_d00df_22 : decode cJ5_ensureCapacityInternal_d00df 22 = .ok (.aload_n 0, 1) := by decide +kernel
theorem dJ5_ensureCapacityInternal_d00df_23 : decode cJ5_ensureCapacityInternal_d00df 23 = .ok (.iload_n 1, 1) := by decide +kernel
theorem dJ5_ensureCapacityInternal_d00df_24 : decode cJ5_ensureCapacityInternal_d00df 24 = .ok (.invokevirtual 104, 3) := by decide +kernel
theorem dJ5_ensureCapacityInternal_d00df_27 : decode cJ5_ensureCapacityInternal_d00df 27 = .ok (.aload_n 0, 1) := by decide +kernel
theorem dJ5_ensureCapacityInternal_d00df_28 : decode cJ5_ensureCapacityInternal_d00df 28 = .ok (.getfield 22, 3) := by decide +kernel
theorem dJ5_ensureCapacityInternal_d00df_31 : decode cJ5_ensureCapacityInternal_d00df 31 = .ok (.ishl, 1) := by decide +kernel
theorem dJ5_ensureCapacityInternal_d00df_32 : decode cJ5_ensureCapacityInternal_d00df 32 = .ok (.invokestatic 108, 3) := by decide +kernel
theorem dJ5_ensureCapacityInternal_d00df_35 : decode cJ5_ensureCapacityInternal_d00df 35 = .ok (.putfield 15, 3) := by decide +kernel
theorem dJ5_ensureCapacityInternal_d00df_38 : decode cJ5_ensureCapacityInternal_d00df 38 = .ok (.return_, 1) := by decide +kernel
set_option maxRecDepth 20000 in
theorem ggJ5_newCapacity_0f7a4_J8_newLength_cabcc : GoodIn wsJ5_newCapacity_0f7a4 wsJ8_newLength_cabcc := goodIn_r _ [7, 8, 9, 10, 11, 12, 13, 14, 6, 15] (by decide +kernel) (by decide +kernel)
set_option maxRecDepth 20000 in
theorem gJ5_newCapacity_0f7a4_J8_newLength_cabcc : GoodIn wsJ5_newCapacity_0f7a4 (va_wsS RJ5 114 yJ8_newLength_cabcc wsJ8_newLength_cabcc) := goodIn_app (goodIn_of _ (by decide +kernel)) ggJ5_newCapacity_0f7a4_J8_newLength_cabcc
theorem dJ5_newCapacity_0f7a4_0 : decode cJ5_newCapacity_0f7a4 0 = .ok (.aload_n 0, 1) := by decide +kernel
theorem dJ5_newCapacity_0f7a4_1 : decode cJ5_newCapacity_0f7a4 1 = .ok (.getfield 15, 3) := by decide +kernel
theorem dJ5_newCapacity_0f7a4_4 : decode cJ5_newCapacity_0f7a4 4 = .ok (.arraylength, 1) := by decide +kernel
theorem dJ5_newCapacity_0f7a4_5 : decode cJ5_newCapacity_0f7a4 5 = .ok (.istore_n 2, 1) := by decide +kernel
theorem dJ5_newCapacity_0f7a4_6 : decode cJ5_newCapacity_0f7a4 6 = .ok (.iload_n 1, 1) := by decide +kernel
theorem dJ5_newCapacity_0f7a4_7 : decode cJ5_newCapacity_0f7a4 7 = .ok (.aload_n 0, 1) := by decide +kernel
theorem dJ5_newCapacity_0f7a4_8 : decode cJ5_newCapacity_0f7a4 8 = .ok (.getfield 22, 3) := by decide +kernel
theorem dJ5_newCapacity_0f7a4_11 : decode cJ5_newCapacity_0f7a4 11 = .ok (.ishl, 1) := by decide +kernel
theorem dJ5_newCapacity_0f7a4_12 : decode cJ5_newCapacity_0f7a4 12 = .ok (.istore_n 3, 1) := by decide +kernel
theorem dJ5_newCapacity_0f7a4_13 : decode cJ5_newCapacity_0f7a4 13 = .ok (.iload_n 3, 1) := by decide +kernel
theorem dJ5_newCapacity_0f7a4_14 : decode cJ5_newCapacity_0f7a4 14 = .ok (.iload_n 2, 1) := by decide +kernel
theorem dJ5_newCapacity_0f7a4_15 : decode cJ5_newCapacity_0f7a4 15 = .ok (.isub, 1) := by decide +kernel
theorem dJ5_newCapacity_0f7a4_16 : decode cJ5_newCapacity_0f7a4 16 = .ok (.istore 4, 2) := by decide +kernel
theorem dJ5_newCapacity_0f7a4_18 : decode cJ5_newCapacity_0f7a4 18 = .ok (.iload_n 2, 1) := by decide +kernel
theorem dJ5_newCapacity_0f7a4_19 : decode cJ5_newCapacity_0f7a4 19 = .ok (.iload 4, 2) := by decide +kernel
theorem dJ5_newCapacity_0f7a4_21 : decode cJ5_newCapacity_0f7a4 21 = .ok (.iload_n 2, 1) := by decide +kernel
theorem dJ5_newCapacity_0f7a4_22 : decode cJ5_newCapacity_0f7a4 22 = .ok (.iconst 2, 1) := by decide +kernel
theorem dJ5_newCapacity_0f7a4_23 : decode cJ5_newCapacity_0f7a4 23 = .ok (.aload_n 0, 1) := by decide +kernel
theorem dJ5_newCapacity_0f7a4_24 : decode cJ5_newCapacity_0f7a4 24 = .ok (.getfield 22, 3) := by decide +kernel
theorem dJ5_newCapacity_0f7a4_27 : decode cJ5_newCapacity_0f7a4 27 = .ok (.ishl, 1) := by decide +kernel
theorem dJ5_newCapacity_0f7a4_28 : decode cJ5_newCapacity_0f7a4 28 = .ok (.iadd, 1) := by decide +kernel
theorem dJ5_newCapacity_0f7a4_29 : decode cJ5_newCapacity_0f7a4 29 = .ok (.invokestatic 114, 3) := by decide +kernel
theorem dJ5_newCapacity_0f7a4_32 : decode cJ5_newCapacity_0f7a4 32 = .ok (.istore 5, 2) := by decide +kernel
theorem dJ5_newCapacity_0f7a4_34 : decode cJ5_newCapacity_0f7a4 34 = .ok (.iload 5, 2) := by decide +kernel
theorem dJ5_newCapacity_0f7a4_36 : decode cJ5_newCapacity_0f7a4 36 = .ok (.ldc 39, 2) := by decide +kernel
theorem dJ5_newCapacity_0f7a4_38 : decode cJ5_newCapacity_0f7a4 38 = .ok (.if_icmp .ne 13, 3) := by decide +kernel
theorem dJ5_newCapacity_0f7a4_41 : decode cJ5_newCapacity_0f7a4 41 = .ok (.new 120, 3) := by decide +kernel
theorem dJ5_newCapacity_0f7a4_44 : decode cJ5_newCapacity_0f7a4 44 = .ok (.dup, 1) := by decide +kernel
theorem dJ5_newCapacity_0f7a4_45 : decode cJ5_newCapacity_0f7a4 45 = .ok (.ldc 122, 2) := by decide +kernel
theorem dJ5_newCapacity_0f7a4_47 : decode cJ5_newCapacity_0f7a4 47 = .ok (.invokespecial 124, 3) := by decide +kernel
theorem dJ5_newCapacity_0f7a4_50 : decode cJ5_newCapacity_0f7a4 50 = .ok (.athrow, 1) := by decide +kernel
theorem dJ5_newCapacity_0f7a4_51 : decode cJ5_newCapacity_0f7a4 51 = .ok (.iload 5, 2) := by decide +kernel
theorem dJ5_newCapacity_0f7a4_53 : decode cJ5_newCapacity_0f7a4 53 = .ok (.aload_n 0, 1) := by decide +kernel
theorem dJ5_newCapacity_0f7a4_54 : decode cJ5_newCapacity_0f7a4 54 = .ok (.getfield 22, 3) := by decide +kernel
theorem dJ5_newCapacity_0f7a4_57 : decode cJ5_newCapacity_0f7a4 57 = .ok (.ishr, 1) := by decide +kernel
theorem dJ5_newCapacity_0f7a4_58 : decode cJ5_newCapacity_0f7a4 58 = .ok (.ireturn, 1) := by decide +kernel
set_option maxRecDepth 20000 in
theorem ggJ5_inflate_da8c8_J5_isLatin1_aae02 : GoodIn wsJ5_inflate_da8c8 wsJ5_isLatin1_aae02 := goodIn_r _ [9, 10, 3, 48, 49, 50, 51] (by decide +kernel) (by decide +kernel)
set_option maxRecDepth 20000 in
theorem gJ5_inflate_da8c8_J5_isLatin1_aae02_u83J4 : GoodIn wsJ5_inflate_da8c8 (va_wsU RJ5 83 RJ4 "java/lang/AbstractStringBuilder" ⟨"java/lang/AbstractStringBuilder", "isLatin1", "()Z"⟩ yJ5_isLatin1_aae02 wsJ5_isLatin1_aae02) := goodIn_app (goodIn_of _ (by decide +kernel)) ggJ5_inflate_da8c8_J5_isLatin1_aae02
set_option maxRecDepth 20000 in
theorem ggJ5_inflate_da8c8_J2_newBytesFor_77867 : GoodIn wsJ5_inflate_da8c8 wsJ2_newBytesFor_77867 := goodIn_r _ [14, 15, 16, 17, 13, 18, 19] (by decide +kernel) (by decide +kernel)
set_option maxRecDepth 20000 in
theorem gJ5_inflate_da8c8_J2_newBytesFor_77867 : GoodIn wsJ5_inflate_da8c8 (va_wsS RJ5 26 yJ2_newBytesFor_77867 wsJ2_newBytesFor_77867) := goodIn_app (goodIn_of _ (by decide +kernel)) ggJ5_inflate_da8c8_J2_newBytesFor_77867
set_option maxRecDepth 20000 in
theorem ggJ5_inflate_da8c8_J1_inflate_0e8fd : GoodIn wsJ5_inflate_da8c8 wsJ1_inflate_0e8fd := goodIn_r _ [23, 24, 25, 13, 26, 27, 28, 29, 30, 31, 32, 33, 34, 35, 36, 37, 38, 39, 40, 41, 42, 43, 44, 45, 46, 47] (by decide +kernel) (by decide +kernel)
set_option maxRecDepth 20000 in
theorem gJ5_inflate_da8c8_J1_inflate_0e8fd : GoodIn wsJ5_inflate_da8c8 (va_wsS RJ5 125 yJ1_inflate_0e8fd wsJ1_inflate_0e8fd) := goodIn_app (goodIn_of _ (by decide +kernel)) ggJ5_inflate_da8c8_J1_inflate_0e8fd
theorem dJ5_inflate_da8c8_0 : decode cJ5_inflate_da8c8 0 = .ok (.aload_n 0, 1) := by decide +kernel
theorem dJ5_inflate_da8c8_1 : decode cJ5_inflate_da8c8 1 = .ok (.invokevirtual 83, 3) := by decide +kernel
theorem dJ5_inflate_da8c8_4 : decode cJ5_inflate_da8c8 4 = .ok (.ifCond .ne 4, 3) := by decide +kernel
theorem dJ5_inflate_da8c8_7 : decode cJ5_inflate_da8c8 7 = .ok (.return_, 1) := by decide +kernel
theorem dJ5_inflate_da8c8_8 : decode cJ5_inflate_da8c8 8 = .ok (.aload_n 0, 1) := by decide +kernel
theorem dJ5_inflate_da8c8_9 : decode cJ5_inflate_da8c8 9 = .ok (.getfield 15, 3) := by decide +kernel
theorem dJ5_inflate_da8c8_12 : decode cJ5_inflate_da8c8 12 = .ok (.arraylength, 1) := by decide +kernel
theorem dJ5_inflate_da8c8_13 : decode cJ5_inflate_da8c8 13 = .ok (.invokestatic 26, 3) := by decide +kernel
theorem dJ5_inflate_da8c8_16 : decode cJ5_inflate_da8c8 16 = .ok (.astore_n 1, 1) := by decide +kernel
theorem dJ5_inflate_da8c8_17 : decode cJ5_inflate_da8c8 17 = .ok (.aload_n 0, 1) := by decide +kernel
theorem dJ5_inflate_da8c8_18 : decode cJ5_inflate_da8c8 18 = .ok (.getfield 15, 3) := by decide +kernel
theorem dJ5_inflate_da8c8_21 : decode cJ5_inflate_da8c8 21 = .ok (.iconst 0, 1) := by decide +kernel
theorem dJ5_inflate_da8c8_22 : decode cJ5_inflate_da8c8 22 = .ok (.aload_n 1, 1) := by decide +kernel
theorem dJ5_inflate_da8c8_23 : decode cJ5_inflate_da8c8 23 = .ok (.iconst 0, 1) := by decide +kernel
theorem dJ5_inflate_da8c8_24 : decode cJ5_inflate_da8c8 24 = .ok (.aload_n 0, 1) := by decide +kernel
theorem dJ5_inflate_da8c8_25 : decode cJ5_inflate_da8c8 25 = .ok (.getfield 79, 3) := by decide +kernel
theorem dJ5_inflate_da8c8_28 : decode cJ5_inflate_da8c8 28 = .ok (.invokestatic 125, 3) := by decide +kernel
theorem dJ5_inflate_da8c8_31 : decode cJ5_inflate_da8c8 31 = .ok (.aload_n 0, 1) := by decide +kernel
theorem dJ5_inflate_da8c8_32 : decode cJ5_inflate_da8c8 32 = .ok (.aload_n 1, 1) := by decide +kernel
theorem dJ5_inflate_da8c8_33 : decode cJ5_inflate_da8c8 33 = .ok (.putfield 15, 3) := by decide +kernel
theorem dJ5_inflate_da8c8_36 : decode cJ5_inflate_da8c8 36 = .ok (.aload_n 0, 1) := by decide +kernel
theorem dJ5_inflate_da8c8_37 : decode cJ5_inflate_da8c8 37 = .ok (.iconst 1, 1) := by decide +kernel
theorem dJ5_inflate_da8c8_38 : decode cJ5_inflate_da8c8 38 = .ok (.putfield 22, 3) := by decide +kernel
theorem dJ5_inflate_da8c8_41 : decode cJ5_inflate_da8c8 41 = .ok (.return_, 1) := by decide +kernel
set_option maxRecDepth 20000 in
theorem ggJ5_setLength_d00df_J5_ensureCapacityInternal_d00df : GoodIn wsJ5_setLength_d00df wsJ5_ensureCapacityInternal_d00df := goodIn_r _ [9, 2, 10, 11, 12, 13, 14, 8, 15, 16, 17, 18, 19, 20, 21, 22, 23, 24, 25, 26, 27, 28, 29, 30, 31, 32, 33, 34, 35, 36, 37, 38, 39, 40, 41, 42, 43, 44, 45, 46, 68, 69, 70, 71] (by decide +kernel) (by decide +kernel)
set_option maxRecDepth 20000 in
theorem gJ5_setLength_d00df_J5_ensureCapacityInternal_d00df_u100J4 : GoodIn wsJ5_setLength_d00df (va_wsU RJ5 100 RJ4 "java/lang/AbstractStringBuilder" ⟨"java/lang/AbstractStringBuilder", "ensureCapacityInternal", "(I)V"⟩ yJ5_ensureCapacityInternal_d00df wsJ5_ensureCapacityInternal_d00df) := goodIn_app (goodIn_of _ (by decide +kernel)) ggJ5_setLength_d00df_J5_ensureCapacityInternal_d00df
set_option maxRecDepth 20000 in
theorem ggJ5_setLength_d00df_J5_isLatin1_aae02 : GoodIn wsJ5_setLength_d00df wsJ5_isLatin1_aae02 := goodIn_r _ [51, 52, 10, 68, 69, 70, 71] (by decide +kernel) (by decide +kernel)
set_option maxRecDepth 20000 in
theorem gJ5_setLength_d00df_J5_isLatin1_aae02_u83J4 : GoodIn wsJ5_setLength_d00df (va_wsU RJ5 83 RJ4 "java/lang/AbstractStringBuilder" ⟨"java/lang/AbstractStringBuilder", "isLatin1", "()Z"⟩ yJ5_isLatin1_aae02 wsJ5_isLatin1_aae02) := goodIn_app (goodIn_of _ (by decide +kernel)) ggJ5_setLength_d00df_J5_isLatin1_aae02
set_option maxRecDepth 20000 in
theorem ggJ5_setLength_d00df_J1_fillNull_b72d1 : GoodIn wsJ5_setLength_d00df wsJ1_fillNull_b72d1 := goodIn_r _ [56, 57, 58, 31, 59, 60, 61, 62] (by decide +kernel) (by decide +kernel)
set_option maxRecDepth 20000 in
theorem gJ5_setLength_d00df_J1_fillNull_b72d1 : GoodIn wsJ5_setLength_d00df (va_wsS RJ5 133 yJ1_fillNull_b72d1 wsJ1_fillNull_b72d1) := goodIn_app (goodIn_of _ (by decide +kernel)) ggJ5_setLength_d00df_J1_fillNull_b72d1
set_option maxRecDepth 20000 in
theorem ggJ5_setLength_d00df_J2_fillNull_b72d1 : GoodIn wsJ5_setLength_d00df wsJ2_fillNull_b72d1 := goodIn_r _ [66, 67, 58, 31, 59, 60, 61, 62] (by decide +kernel) (by decide +kernel)
set_option maxRecDepth 20000 in
theorem gJ5_setLength_d00df_J2_fillNull_b72d1 : GoodIn wsJ5_setLength_d00df (va_wsS RJ5 137 yJ2_fillNull_b72d1 wsJ2_fillNull_b72d1) := goodIn_app (goodIn_of _ (by decide +kernel)) ggJ5_setLength_d00df_J2_fillNull_b72d1
theorem dJ5_setLength_d00df_0 : decode cJ5_setLength_d00df 0 = .ok (.iload_n 1, 1) := by decide +kernel
theorem dJ5_setLength_d00df_1 : decode cJ5_setLength_d00df 1 = .ok (.ifCond .ge 12, 3) := by decide +kernel
theorem dJ5_setLength_d00df_4 : decode cJ5_setLength_d00df 4 = .ok (.new 129, 3) := by decide +kernel
theorem dJ5_setLength_d00df_7 : decode cJ5_setLength_d00df 7 = .ok (.dup, 1) := by decide +kernel
theorem dJ5_setLength_d00df_8 : decode cJ5_setLength_d00df 8 = .ok (.iload_n 1, 1) := by decide +kernel
theorem dJ5_setLength_d00df_9 : decode cJ5_setLength_d00df 9 = .ok (.invokespecial 131, 3) := by decide +kernel
theorem dJ5_setLength_d00df_12 : decode cJ5_setLength_d00df 12 = .ok (.athrow, 1) := by decide +kernel
theorem dJ5_setLength_d00df_13 : decode cJ5_setLength_d00df 13 = .ok (.aload_n 0, 1) := by decide +kernel
theorem dJ5_setLength_d00df_14 : decode cJ5_setLength_d00df 14 = .ok (.iload_n 1, 1) := by decide +kernel
theorem dJ5_setLength_d00df_15 : decode cJ5_setLength_d00df 15 = .ok (.invokevirtual 100, 3) := by decide +kernel
theorem dJ5_setLength_d00df_18 : decode cJ5_setLength_d00df 18 = .ok (.aload_n 0, 1) := by decide +kernel
theorem dJ5_setLength_d00df_19 : decode cJ5_setLength_d00df 19 = .ok (.getfield 79, 3) := by decide +kernel
theorem dJ5_setLength_d00df_22 : decode cJ5_setLength_d00df 22 = .ok (.iload_n 1, 1) := by decide +kernel
theorem dJ5_setLength_d00df_23 : decode cJ5_setLength_d00df 23 = .ok (.if_icmp .ge 40, 3) := by decide +kernel
theorem dJ5_setLength_d00df_26 : decode cJ5_setLength_d00df 26 = .ok (.aload_n 0, 1) := by decide +kernel
theorem dJ5_setLength_d00df_27 : decode cJ5_setLength_d00df 27 = .ok (.invokevirtual 83, 3) := by decide +kernel
theorem dJ5_setLength_d00df_30 : decode cJ5_setLength_d00df 30 = .ok (.ifCond .eq 18, 3) := by decide +kernel
theorem dJ5_setLength_d00df_33 : decode cJ5_setLength_d00df 33 = .ok (.aload_n 0, 1) := by decide +kernel
theorem dJ5_setLength_d00df_34 : decode cJ5_setLength_d00df 34 = .ok (.getfield 15, 3) := by decide +kernel
theorem dJ5_setLength_d00df_37 : decode cJ5_setLength_d00df 37 = .ok (.aload_n 0, 1) := by decide +kernel
theorem dJ5_setLength_d00df_38 : decode cJ5_setLength_d00df 38 = .ok (.getfield 79, 3) := by decide +kernel
theorem dJ5_setLength_d00df_41 : decode cJ5_setLength_d00df 41 = .ok (.iload_n 1, 1) := by decide +kernel
theorem dJ5_setLength_d00df_42 : decode cJ5_setLength_d00df 42 = .ok (.invokestatic 133, 3) := by decide +kernel
theorem dJ5_setLength_d00df_45 : decode cJ5_setLength_d00df 45 = .ok (.goto 31, 3) := by decide +kernel
theorem dJ5_setLength_d00df_48 : decode cJ5_setLength_d00df 48 = .ok (.aload_n 0, 1) := by decide +kernel
theorem dJ5_setLength_d00df_49 : decode cJ5_setLength_d00df 49 = .ok (.getfield 15, 3) := by decide +kernel
theorem dJ5_setLength_d00df_52 : decode cJ5_setLength_d00df 52 = .ok (.aload_n 0, 1) := by decide +kernel
theorem dJ5_setLength_d00df_53 : decode cJ5_setLength_d00df 53 = .ok (.getfield 79, 3) := by decide +kernel
theorem dJ5_setLength_d00df_56 : decode cJ5_setLength_d00df 56 = .ok (.iload_n 1, 1) := by decide +kernel
theorem dJ5_setLength_d00df_57 : decode cJ5_setLength_d00df 57 = .ok (.invokestatic 137, 3) := by decide +kernel
theorem dJ5_setLength_d00df_60 : decode cJ5_setLength_d00df 60 = .ok (.goto 16, 3) := by decide +kernel
theorem dJ5_setLength_d00df_63 : decode cJ5_setLength_d00df 63 = .ok (.aload_n 0, 1) := by decide +kernel
theorem dJ5_setLength_d00df_64 : decode cJ5_setLength_d00df 64 = .ok (.getfield 79, 3) := by decide +kernel
theorem dJ5_setLength_d00df_67 : decode cJ5_setLength_d00df 67 = .ok (.iload_n 1, 1) := by decide +kernel
theorem dJ5_setLength_d00df_68 : decode cJ5_setLength_d00df 68 = .ok (.if_icmp .le 8, 3) := by decide +kernel
theorem dJ5_setLength_d00df_71 : decode cJ5_setLength_d00df 71 = .ok (.aload_n 0, 1) := by decide +kernel
theorem dJ5_setLength_d00df_72 : decode cJ5_setLength_d00df 72 = .ok (.iconst 1, 1) := by decide +kernel
theorem dJ5_setLength_d00df_73 : decode cJ5_setLength_d00df 73 = .ok (.putfield 73, 3) := by decide +kernel
theorem dJ5_setLength_d00df_76 : decode cJ5_setLength_d00df 76 = .ok (.aload_n 0, 1) := by decide +kernel
theorem dJ5_setLength_d00df_77 : decode cJ5_setLength_d00df 77 = .ok (.iload_n 1, 1) := by decide +kernel
theorem dJ5_setLength_d00df_78 : decode cJ5_setLength_d00df 78 = .ok (.putfield 79, 3) := by decide +kernel
theorem dJ5_setLength_d00df_81 : decode cJ5_setLength_d00df 81 = .ok (.return_, 1) := by decide +kernel
set_option maxRecDepth 20000 in
theorem ggJ5_append_cf1ce_J5_appendNull_278bc : GoodIn wsJ5_append_cf1ce wsJ5_appendNull_278bc := goodIn_r _ [7, 1, 8, 9, 10, 11, 12, 6, 13, 14, 15, 16, 17, 18, 19, 20, 21, 22, 23, 24, 25, 26, 27, 28, 29, 30, 31, 32, 33, 34, 35, 36, 37, 38, 39, 40, 41, 42, 43, 44, 45, 46, 47, 48, 49, 50, 51, 52, 53, 54, 55, 56, 57, 58, 59, 60, 61, 62, 63, 64, 65, 66, 67, 68, 69, 70, 71, 72, 73, 74, 75, 76, 77, 78, 79, 80, 81, 138, 139, 140, 141] (by decide +kernel) (by decide +kernel)
set_option maxRecDepth 20000 in
theorem gJ5_append_cf1ce_J5_appendNull_278bc_u204J4 : GoodIn wsJ5_append_cf1ce (va_wsU RJ5 204 RJ4 "java/lang/AbstractStringBuilder" ⟨"java/lang/AbstractStringBuilder", "appendNull", "()Ljava/lang/AbstractStringBuilder;"⟩ yJ5_appendNull_278bc wsJ5_appendNull_278bc) := goodIn_app (goodIn_of _ (by decide +kernel)) ggJ5_append_cf1ce_J5_appendNull_278bc
set_option maxRecDepth 20000 in
theorem ggJ5_append_cf1ce_J0_length_8abf5 : GoodIn wsJ5_append_cf1ce wsJ0_length_8abf5 := goodIn_r _ [85, 86, 87, 88, 89, 70, 90, 91, 92, 142, 143, 144, 145] (by decide +kernel) (by decide +kernel)
set_option maxRecDepth 20000 in
theorem gJ5_append_cf1ce_J0_length_8abf5 : GoodIn wsJ5_append_cf1ce (wsV RJ5 32 RJ0 yJ0_length_8abf5 wsJ0_length_8abf5) := goodIn_app (goodIn_of _ (by decide +kernel)) ggJ5_append_cf1ce_J0_length_8abf5
set_option maxRecDepth 20000 in
theorem ggJ5_append_cf1ce_J5_ensureCapacityInternal_d00df : GoodIn wsJ5_append_cf1ce wsJ5_ensureCapacityInternal_d00df := goodIn_r _ [13, 8, 14, 15, 16, 17, 18, 6, 19, 20, 21, 22, 23, 24, 25, 26, 27, 28, 29, 30, 31, 32, 33, 34, 35, 36, 37, 38, 39, 40, 41, 42, 43, 44, 45, 46, 47, 48, 49, 50, 138, 139, 140, 141] (by decide +kernel) (by decide +kernel)
set_option maxRecDepth 20000 in
theorem gJ5_append_cf1ce_J5_ensureCapacityInternal_d00df_u100J4 : GoodIn wsJ5_append_cf1ce (va_wsU RJ5 100 RJ4 "java/lang/AbstractStringBuilder" ⟨"java/lang/AbstractStringBuilder", "ensureCapacityInternal", "(I)V"⟩ yJ5_ensureCapacityInternal_d00df wsJ5_ensureCapacityInternal_d00df) := goodIn_app (goodIn_of _ (by decide +kernel)) ggJ5_append_cf1ce_J5_ensureCapacityInternal_d00df
set_option maxRecDepth 20000 in
theorem ggJ5_append_cf1ce_J5_putStringAt_47b60 : GoodIn wsJ5_append_cf1ce wsJ5_putStringAt_47b60 := goodIn_r _ [97, 8, 14, 98, 99, 100, 101, 6, 102, 56, 103, 88, 89, 70, 90, 91, 92, 104, 105, 106, 107, 108, 1, 51, 52, 53, 54, 55, 109, 110, 59, 111, 43, 112, 113, 114, 115, 116, 117, 118, 119, 120, 121, 122, 123, 124, 125, 65, 66, 67, 126, 127, 128, 72, 129, 130, 75, 131, 77, 78, 79, 61, 80, 81, 132, 133, 134, 135, 86, 136, 48, 49, 50, 87, 137, 138, 139, 140, 141, 142, 143, 144, 145] (by decide +kernel) (by decide +kernel)
set_option maxRecDepth 20000 in
theorem gJ5_append_cf1ce_J5_putStringAt_47b60_u208J4 : GoodIn wsJ5_append_cf1ce (va_wsU RJ5 208 RJ4 "java/lang/AbstractStringBuilder" ⟨"java/lang/AbstractStringBuilder", "putStringAt", "(ILjava/lang/String;)V"⟩ yJ5_putStringAt_47b60 wsJ5_putStringAt_47b60) := goodIn_app (goodIn_of _ (by decide +kernel)) ggJ5_append_cf1ce_J5_putStringAt_47b60
theorem dJ5_append_cf1ce_0 : decode cJ5_append_cf1ce 0 = .ok (.aload_n 1, 1) := by decide +kernel
theorem dJ5_append_cf1ce_1 : decode cJ5_append_cf1ce 1 = .ok (.ifnonnull 8, 3) := by decide +kernel
theorem dJ5_append_cf1ce_4 : decode cJ5_append_cf1ce 4 = .ok (.aload_n 0, 1) := by decide +kernel
theorem dJ5_append_cf1ce_5 : decode cJ5_append_cf1ce 5 = .ok (.invokevirtual 204, 3) := by decide +kernel
theorem dJ5_append_cf1ce_8 : decode cJ5_append_cf1ce 8 = .ok (.areturn, 1) := by decide +kernel
theorem dJ5_append_cf1ce_9 : decode cJ5_append_cf1ce 9 = .ok (.aload_n 1, 1) := by decide +kernel
theorem dJ5_append_cf1ce_10 : decode cJ5_append_cf1ce 10 = .ok (.invokevirtual 32, 3) := by decide +kernel
theorem dJ5_append_cf1ce_13 : decode cJ5_append_cf1ce 13 = .ok (.istore_n 2, 1) := by decide +kernel
theorem dJ5_append_cf1ce_14 : decode cJ5_append_cf1ce 14 = .ok (.aload_n 0, 1) := by decide +kernel
theorem dJ5_append_cf1ce_15 : decode cJ5_append_cf1ce 15 = .ok (.aload_n 0, 1) := by decide +kernel
theorem dJ5_append_cf1ce_16 : decode cJ5_append_cf1ce 16 = .ok (.getfield 79, 3) := by decide +kernel
theorem dJ5_append_cf1ce_19 : decode cJ5_append_cf1ce 19 = .ok (.iload_n 2, 1) := by decide +kernel
theorem dJ5_append_cf1ce_20 : decode cJ5_append_cf1ce 20 = .ok (.iadd, 1) := by decide +kernel
theorem dJ5_append_cf1ce_21 : decode cJ5_append_cf1ce 21 = .ok (.invokevirtual 100, 3) := by decide +kernel
theorem dJ5_append_cf1ce_24 : decode cJ5_append_cf1ce 24 = .ok (.aload_n 0, 1) := by decide +kernel
theorem dJ5_append_cf1ce_25 : decode cJ5_append_cf1ce 25 = .ok (.aload_n 0, 1) := by decide +kernel
theorem dJ5_append_cf1ce_26 : decode cJ5_append_cf1ce 26 = .ok (.getfield 79, 3) := by decide +kernel
theorem dJ5_append_cf1ce_29 : decode cJ5_append_cf1ce 29 = .ok (.aload_n 1, 1) := by decide +kernel
theorem dJ5_append_cf1ce_30 : decode cJ5_append_cf1ce 30 = .ok (.invokevirtual 208, 3) := by decide +kernel
theorem dJ5_append_cf1ce_33 : decode cJ5_append_cf1ce 33 = .ok (.aload_n 0, 1) := by decide +kernel
theorem dJ5_append_cf1ce_34 : decode cJ5_append_cf1ce 34 = .ok (.dup, 1) := by decide +kernel
theorem dJ5_append_cf1ce_35 : decode cJ5_append_cf1ce 35 = .ok (.getfield 79, 3) := by decide +kernel
theorem dJ5_append_cf1ce_38 : decode cJ5_append_cf1ce 38 = .ok (.iload_n 2, 1) := by decide +kernel
theorem dJ5_append_cf1ce_39 : decode cJ5_append_cf1ce 39 = .ok (.iadd, 1) := by decide +kernel
theorem dJ5_append_cf1ce_40 : decode cJ5_append_cf1ce 40 = .ok (.putfield 79, 3) := by decide +kernel
theorem dJ5_append_cf1ce_43 : decode cJ5_append_cf1ce 43 = .ok (.aload_n 0, 1) := by decide +kernel
theorem dJ5_append_cf1ce_44 : decode cJ5_append_cf1ce 44 = .ok (.areturn, 1) := by decide +kernel
set_option maxRecDepth 20000 in
theorem ggJ5_appendNull_278bc_J5_ensureCapacityInternal_d00df : GoodIn wsJ5_appendNull_278bc wsJ5_ensureCapacityInternal_d00df := goodIn_r _ [8, 2, 9, 10, 11, 12, 13, 7, 14, 15, 16, 17, 18, 19, 20, 21, 22, 23, 24, 25, 26, 27, 28, 29, 30, 31, 32, 33, 34, 35, 36, 37, 38, 39, 40, 41, 42, 43, 44, 45, 77, 78, 79, 80] (by decide +kernel) (by decide +kernel)
set_option maxRecDepth 20000 in
theorem gJ5_appendNull_278bc_J5_ensureCapacityInternal_d00df_u100J4 : GoodIn wsJ5_appendNull_278bc (va_wsU RJ5 100 RJ4 "java/lang/AbstractStringBuilder" ⟨"java/lang/AbstractStringBuilder", "ensureCapacityInternal", "(I)V"⟩ yJ5_ensureCapacityInternal_d00df wsJ5_ensureCapacityInternal_d00df) := goodIn_app (goodIn_of _ (by decide +kernel)) ggJ5_appendNull_278bc_J5_ensureCapacityInternal_d00df
set_option maxRecDepth 20000 in
theorem ggJ5_appendNull_278bc_J5_isLatin1_aae02 : GoodIn wsJ5_appendNull_278bc wsJ5_isLatin1_aae02 := goodIn_r _ [50, 51, 9, 77, 78, 79, 80] (by decide +kernel) (by decide +kernel)
set_option maxRecDepth 20000 in
theorem gJ5_appendNull_278bc_J5_isLatin1_aae02_u83J4 : GoodIn wsJ5_appendNull_278bc (va_wsU RJ5 83 RJ4 "java/lang/AbstractStringBuilder" ⟨"java/lang/AbstractStringBuilder", "isLatin1", "()Z"⟩ yJ5_isLatin1_aae02 wsJ5_isLatin1_aae02) := goodIn_app (goodIn_of _ (by decide +kernel)) ggJ5_appendNull_278bc_J5_isLatin1_aae02
set_option maxRecDepth 20000 in
theorem ggJ5_appendNull_278bc_J2_putCharsAt_cd4e5 : GoodIn wsJ5_appendNull_278bc wsJ2_putCharsAt_cd4e5 := goodIn_r _ [55, 56, 57, 58, 54, 59, 60, 61, 62, 63, 64, 65, 66, 67, 68, 69, 70, 71, 72, 73, 74, 75, 76] (by decide +kernel) (by decide +kernel)
set_option maxRecDepth 20000 in
theorem gJ5_appendNull_278bc_J2_putCharsAt_cd4e5 : GoodIn wsJ5_appendNull_278bc (va_wsS RJ5 226 yJ2_putCharsAt_cd4e5 wsJ2_putCharsAt_cd4e5) := goodIn_app (goodIn_of _ (by decide +kernel)) ggJ5_appendNull_278bc_J2_putCharsAt_cd4e5
theorem dJ5_appendNull_278bc_0 : decode cJ5_appendNull_278bc 0 = .ok (.aload_n 0, 1) := by decide +kernel
theorem dJ5_appendNull_278bc_1 : decode cJ5_appendNull_278bc 1 = .ok (.aload_n 0, 1) := by decide +kernel
theorem dJ5_appendNull_278bc_2 : decode cJ5_appendNull_278bc 2 = .ok (.getfield 79, 3) := by decide +kernel
theorem dJ5_appendNull_278bc_5 : decode cJ5_appendNull_278bc 5 = .ok (.iconst 4, 1) := by decide +kernel
theorem dJ5_appendNull_278bc_6 : decode cJ5_appendNull_278bc 6 = .ok (.iadd, 1) := by decide +kernel
theorem dJ5_appendNull_278bc_7 : decode cJ5_appendNull_278bc 7 = .ok (.invokevirtual 100, 3) := by decide +kernel
theorem dJ5_appendNull_278bc_10 : decode cJ5_appendNull_278bc 10 = .ok (.aload_n 0, 1) := by decide +kernel
theorem dJ5_appendNull_278bc_11 : decode cJ5_appendNull_278bc 11 = .ok (.getfield 79, 3) := by decide +kernel
theorem dJ5_appendNull_278bc_14 : decode cJ5_appendNull_278bc 14 = .ok (.istore_n 1, 1) := by decide +kernel
theorem dJ5_appendNull_278bc_15 : decode cJ5_appendNull_278bc 15 = .ok (.aload_n 0, 1) := by decide +kernel
theorem dJ5_appendNull_278bc_16 : decode cJ5_appendNull_278bc 16 = .ok (.getfield 15, 3) := by decide +kernel
theorem dJ5_appendNull_278bc_19 : decode cJ5_appendNull_278bc 19 = .ok (.astore_n 2, 1) := by decide +kernel
theorem dJ5_appendNull_278bc_20 : decode cJ5_appendNull_278bc 20 = .ok (.aload_n 0, 1) := by decide +kernel
theorem dJ5_appendNull_278bc_21 : decode cJ5_appendNull_278bc 21 = .ok (.invokevirtual 83, 3) := by decide +kernel
theorem dJ5_appendNull_278bc_24 : decode cJ5_appendNull_278bc 24 = .ok (.ifCond .eq 38, 3) := by decide +kernel
theorem dJ5_appendNull_278bc_27 : decode cJ5_appendNull_278bc 27 = .ok (.aload_n 2, 1) := by decide +kernel
theorem dJ5_appendNull_278bc_28 : decode cJ5_appendNull_278bc 28 = .ok (.iload_n 1, 1) := by decide +kernel
theorem dJ5_appendNull_278bc_29 : decode cJ5_appendNull_278bc 29 = .ok (.iinc 1 1, 3) := by decide +kernel
theorem dJ5_appendNull_278bc_32 : decode cJ5_appendNull_278bc 32 = .ok (.bipush 110, 2) := by decide +kernel
theorem dJ5_appendNull_278bc_34 : decode cJ5_appendNull_278bc 34 = .ok (.bastore, 1) := by decide +kernel
theorem dJ5_appendNull_278bc_35 : decode cJ5_appendNull_278bc 35 = .ok (.aload_n 2, 1) := by decide +kernel
theorem dJ5_appendNull_278bc_36 : decode cJ5_appendNull_278bc 36 = .ok (.iload_n 1, 1) := by decide +kernel
theorem dJ5_appendNull_278bc_37 : decode cJ5_appendNull_278bc 37 = .ok (.iinc 1 1, 3) := by decide +kernel
theorem dJ5_appendNull_278bc_40 : decode cJ5_appendNull_278bc 40 = .ok (.bipush 117, 2) := by decide +kernel
theorem dJ5_appendNull_278bc_42 : decode cJ5_appendNull_278bc 42 = .ok (.bastore, 1) := by decide +kernel
theorem dJ5_appendNull_278bc_43 : decode cJ5_appendNull_278bc 43 = .ok (.aload_n 2, 1) := by decide +kernel
theorem dJ5_appendNull_278bc_44 : decode cJ5_appendNull_278bc 44 = .ok (.iload_n 1, 1) := by decide +kernel
theorem dJ5_appendNull_278bc_45 : decode cJ5_appendNull_278bc 45 = .ok (.iinc 1 1, 3) := by decide +kernel
theorem dJ5_appendNull_278bc_48 : decode cJ5_appendNull_278bc 48 = .ok (.bipush 108, 2) := by decide +kernel
theorem dJ5_appendNull_278bc_50 : decode cJ5_appendNull_278bc 50 = .ok (.bastore, 1) := by decide +kernel
theorem dJ5_appendNull_278bc_51 : decode cJ5_appendNull_278bc 51 = .ok (.aload_n 2, 1) := by decide +kernel
theorem dJ5_appendNull_278bc_52 : decode cJ5_appendNull_278bc 52 = .ok (.iload_n 1, 1) := by decide +kernel
theorem dJ5_appendNull_278bc_53 : decode cJ5_appendNull_278bc 53 = .ok (.iinc 1 1, 3) := by decide +kernel
theorem dJ5_appendNull_278bc_56 : decode cJ5_appendNull_278bc 56 = .ok (.bipush 108, 2) := by decide +kernel
theorem dJ5_appendNull_278bc_58 : decode cJ5_appendNull_278bc 58 = .ok (.bastore, 1) := by decide +kernel
theorem dJ5_appendNull_278bc_59 : decode cJ5_appendNull_278bc 59 = .ok (.goto 17, 3) := by decide +kernel
theorem dJ5_appendNull_278bc_62 : decode cJ5_appendNull_278bc 62 = .ok (.aload_n 2, 1) := by decide +kernel
theorem dJ5_appendNull_278bc_63 : decode cJ5_appendNull_278bc 63 = .ok (.iload_n 1, 1) := by decide +kernel
theorem dJ5_appendNull_278bc_64 : decode cJ5_appendNull_278bc 64 = .ok (.bipush 110, 2) := by decide +kernel
theorem dJ5_appendNull_278bc_66 : decode cJ5_appendNull_278bc 66 = .ok (.bipush 117, 2) := by decide +kernel
theorem dJ5_appendNull_278bc_68 : decode cJ5_appendNull_278bc 68 = .ok (.bipush 108, 2) := by decide +kernel
theorem dJ5_appendNull_278bc_70 : decode cJ5_appendNull_278bc 70 = .ok (.bipush 108, 2) := by decide +kernel
theorem dJ5_appendNull_278bc_72 : decode cJ5_appendNull_278bc 72 = .ok (.invokestatic 226, 3) := by decide +kernel
theorem dJ5_appendNull_278bc_75 : decode cJ5_appendNull_278bc 75 = .ok (.istore_n 1, 1) := by decide +kernel
theorem dJ5_appendNull_278bc_76 : decode cJ5_appendNull_278bc 76 = .ok (.aload_n 0, 1) := by decide +kernel
theorem dJ5_appendNull_278bc_77 : decode cJ5_appendNull_278bc 77 = .ok (.iload_n 1, 1) := by decide +kernel
theorem dJ5_appendNull_278bc_78 : decode cJ5_appendNull_278bc 78 = .ok (.putfield 79, 3) := by decide +kernel
theorem dJ5_appendNull_278bc_81 : decode cJ5_appendNull_278bc 81 = .ok (.aload_n 0, 1) := by decide +kernel
theorem dJ5_appendNull_278bc_82 : decode cJ5_appendNull_278bc 82 = .ok (.areturn, 1) := by decide +kernel
set_option maxRecDepth 20000 in
theorem ggJ5_append_3fe6f_J5_ensureCapacityInternal_d00df : GoodIn wsJ5_append_3fe6f wsJ5_ensureCapacityInternal_d00df := goodIn_r _ [8, 2, 9, 10, 11, 12, 13, 7, 14, 15, 16, 17, 18, 19, 20, 21, 22, 23, 24, 25, 26, 27, 28, 29, 30, 31, 32, 33, 34, 35, 36, 37, 38, 39, 40, 41, 42, 43, 44, 45, 108, 109, 110, 111] (by decide +kernel) (by decide +kernel)
set_option maxRecDepth 20000 in
theorem gJ5_append_3fe6f_J5_ensureCapacityInternal_d00df_u100J4 : GoodIn wsJ5_append_3fe6f (va_wsU RJ5 100 RJ4 "java/lang/AbstractStringBuilder" ⟨"java/lang/AbstractStringBuilder", "ensureCapacityInternal", "(I)V"⟩ yJ5_ensureCapacityInternal_d00df wsJ5_ensureCapacityInternal_d00df) := goodIn_app (goodIn_of _ (by decide +kernel)) ggJ5_append_3fe6f_J5_ensureCapacityInternal_d00df
set_option maxRecDepth 20000 in
theorem ggJ5_append_3fe6f_J5_isLatin1_aae02 : GoodIn wsJ5_append_3fe6f wsJ5_isLatin1_aae02 := goodIn_r _ [50, 51, 9, 108, 109, 110, 111] (by decide +kernel) (by decide +kernel)
set_option maxRecDepth 20000 in
theorem gJ5_append_3fe6f_J5_isLatin1_aae02_u83J4 : GoodIn wsJ5_append_3fe6f (va_wsU RJ5 83 RJ4 "java/lang/AbstractStringBuilder" ⟨"java/lang/AbstractStringBuilder", "isLatin1", "()Z"⟩ yJ5_isLatin1_aae02 wsJ5_isLatin1_aae02) := goodIn_app (goodIn_of _ (by decide +kernel)) ggJ5_append_3fe6f_J5_isLatin1_aae02
set_option maxRecDepth 20000 in
theorem ggJ5_append_3fe6f_J1_canEncode_fc78d : GoodIn wsJ5_append_3fe6f wsJ1_canEncode_fc78d := goodIn_r _ [55] (by decide +kernel) (by decide +kernel)
set_option maxRecDepth 20000 in
theorem gJ5_append_3fe6f_J1_canEncode_fc78d : GoodIn wsJ5_append_3fe6f (va_wsS RJ5 191 yJ1_canEncode_fc78d wsJ1_canEncode_fc78d) := goodIn_app (goodIn_of _ (by decide +kernel)) ggJ5_append_3fe6f_J1_canEncode_fc78d
set_option maxRecDepth 20000 in
theorem ggJ5_append_3fe6f_J5_inflate_da8c8 : GoodIn wsJ5_append_3fe6f wsJ5_inflate_da8c8 := goodIn_r _ [60, 2, 1, 9, 46, 47, 48, 49, 7, 50, 51, 61, 62, 63, 64, 38, 65, 66, 67, 68, 69, 70, 54, 71, 72, 73, 74, 75, 76, 77, 78, 79, 80, 81, 82, 83, 84, 85, 86, 87, 88, 89, 90, 91, 92, 93, 94, 95, 108, 109, 110, 111] (by decide +kernel) (by decide +kernel)
set_option maxRecDepth 20000 in
theorem gJ5_append_3fe6f_J5_inflate_da8c8_u195J4 : GoodIn wsJ5_append_3fe6f (va_wsU RJ5 195 RJ4 "java/lang/AbstractStringBuilder" ⟨"java/lang/AbstractStringBuilder", "inflate", "()V"⟩ yJ5_inflate_da8c8 wsJ5_inflate_da8c8) := goodIn_app (goodIn_of _ (by decide +kernel)) ggJ5_append_3fe6f_J5_inflate_da8c8
set_option maxRecDepth 20000 in
theorem ggJ5_append_3fe6f_J2_putCharSB_b72d1 : GoodIn wsJ5_append_3fe6f wsJ2_putCharSB_b72d1 := goodIn_r _ [98, 99, 100, 63, 101, 78, 79, 80, 102, 103, 83, 104, 85, 105, 106, 88, 107, 90, 91, 92, 93, 94, 95] (by decide +kernel) (by decide +kernel)
set_option maxRecDepth 20000 in
theorem gJ5_append_3fe6f_J2_putCharSB_b72d1 : GoodIn wsJ5_append_3fe6f (va_wsS RJ5 197 yJ2_putCharSB_b72d1 wsJ2_putCharSB_b72d1) := goodIn_app (goodIn_of _ (by decide +kernel)) ggJ5_append_3fe6f_J2_putCharSB_b72d1
