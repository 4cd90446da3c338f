theorem dX5_isTellable_57 : decode cX5_isTellable 57 = .ok (.istore_n 1, 1) := by decide +kernel
theorem dX5_isTellable_58 : decode cX5_isTellable 58 = .ok (.iload_n 1, 1) := by decide +kernel
theorem dX5_isTellable_59 : decode cX5_isTellable 59 = .ok (.bipush 6, 2) := by decide +kernel
theorem dX5_isTellable_61 : decode cX5_isTellable 61 = .ok (.if_icmp .ge 33, 3) := by decide +kernel
theorem dX5_isTellable_64 : decode cX5_isTellable 64 = .ok (.aload_n 0, 1) := by decide +kernel
theorem dX5_isTellable_65 : decode cX5_isTellable 65 = .ok (.getfield 23, 3) := by decide +kernel
theorem dX5_isTellable_68 : decode cX5_isTellable 68 = .ok (.getfield 113, 3) := by decide +kernel
theorem dX5_isTellable_71 : decode cX5_isTellable 71 = .ok (.iload_n 1, 1) := by decide +kernel
theorem dX5_isTellable_72 : decode cX5_isTellable 72 = .ok (.invokestatic 116, 3) := by decide +kernel
theorem dX5_isTellable_75 : decode cX5_isTellable 75 = .ok (.ifCond .eq 13, 3) := by decide +kernel
theorem dX5_isTellable_78 : decode cX5_isTellable 78 = .ok (.aload_n 0, 1) := by decide +kernel
theorem dX5_isTellable_79 : decode cX5_isTellable 79 = .ok (.iload_n 1, 1) := by decide +kernel
theorem dX5_isTellable_80 : decode cX5_isTellable 80 = .ok (.invokevirtual 119, 3) := by decide +kernel
theorem dX5_isTellable_83 : decode cX5_isTellable 83 = .ok (.ifCond .ne 5, 3) := by decide +kernel
theorem dX5_isTellable_86 : decode cX5_isTellable 86 = .ok (.iconst 0, 1) := by decide +kernel
theorem dX5_isTellable_87 : decode cX5_isTellable 87 = .ok (.ireturn, 1) := by decide +kernel
theorem dX5_isTellable_88 : decode cX5_isTellable 88 = .ok (.iinc 1 1, 3) := by decide +kernel
theorem dX5_isTellable_91 : decode cX5_isTellable 91 = .ok (.goto (-33), 3) := by decide +kernel
theorem dX5_isTellable_94 : decode cX5_isTellable 94 = .ok (.aload_n 0, 1) := by decide +kernel
theorem dX5_isTellable_95 : decode cX5_isTellable 95 = .ok (.getfield 23, 3) := by decide +kernel
theorem dX5_isTellable_98 : decode cX5_isTellable 98 = .ok (.getfield 122, 3) := by decide +kernel
theorem dX5_isTellable_101 : decode cX5_isTellable 101 = .ok (.invokevirtual 126, 3) := by decide +kernel
theorem dX5_isTellable_104 : decode cX5_isTellable 104 = .ok (.ifCond .ne 7, 3) := by decide +kernel
theorem dX5_isTellable_107 : decode cX5_isTellable 107 = .ok (.iconst 1, 1) := by decide +kernel
theorem dX5_isTellable_108 : decode cX5_isTellable 108 = .ok (.goto 4, 3) := by decide +kernel
theorem dX5_isTellable_111 : decode cX5_isTellable 111 = .ok (.iconst 0, 1) := by decide +kernel
theorem dX5_isTellable_112 : decode cX5_isTellable 112 = .ok (.ireturn, 1) := by decide +kernel
set_option maxRecDepth 20000 in
theorem ggX5_narrowByDefinition_X3_definitionOf : GoodIn wsX5_narrowByDefinition wsX3_definitionOf := goodIn_r _ [9, 10, 11, 12, 13, 14, 8, 15, 16, 64, 65, 66, 67, 59, 60, 61, 62, 63] (by decide +kernel) (by decide +kernel)
set_option maxRecDepth 20000 in
theorem gX5_narrowByDefinition_X3_definitionOf : GoodIn wsX5_narrowByDefinition (wsV RX5 109 RX3 yX3_definitionOf wsX3_definitionOf) := goodIn_app (goodIn_of _ (by decide +kernel)) ggX5_narrowByDefinition_X3_definitionOf
set_option maxRecDepth 20000 in
theorem ggX5_narrowByDefinition_X3_sentenceAt : GoodIn wsX5_narrowByDefinition wsX3_sentenceAt := goodIn_r _ [15, 10, 16, 64, 65, 66, 67] (by decide +kernel) (by decide +kernel)
set_option maxRecDepth 20000 in
theorem gX5_narrowByDefinition_X3_sentenceAt : GoodIn wsX5_narrowByDefinition (wsV RX5 131 RX3 yX3_sentenceAt wsX3_sentenceAt) := goodIn_app (goodIn_of _ (by decide +kernel)) ggX5_narrowByDefinition_X3_sentenceAt
set_option maxRecDepth 20000 in
theorem ggX5_narrowByDefinition_X1_narrowTo : GoodIn wsX5_narrowByDefinition wsX1_narrowTo := goodIn_r _ [22, 23, 24, 25, 26, 27, 21, 28, 29, 30, 31, 32, 33, 34, 35, 36, 37, 38, 39, 40, 41, 42, 68, 69] (by decide +kernel) (by decide +kernel)
set_option maxRecDepth 20000 in
theorem gX5_narrowByDefinition_X1_narrowTo : GoodIn wsX5_narrowByDefinition (wsV RX5 136 RX1 yX1_narrowTo wsX1_narrowTo) := goodIn_app (goodIn_of _ (by decide +kernel)) ggX5_narrowByDefinition_X1_narrowTo
theorem dX5_narrowByDefinition_0 : decode cX5_narrowByDefinition 0 = .ok (.aload_n 0, 1) := by decide +kernel
theorem dX5_narrowByDefinition_1 : decode cX5_narrowByDefinition 1 = .ok (.getfield 12, 3) := by decide +kernel
theorem dX5_narrowByDefinition_4 : decode cX5_narrowByDefinition 4 = .ok (.aload_n 0, 1) := by decide +kernel
theorem dX5_narrowByDefinition_5 : decode cX5_narrowByDefinition 5 = .ok (.getfield 12, 3) := by decide +kernel
theorem dX5_narrowByDefinition_8 : decode cX5_narrowByDefinition 8 = .ok (.iload_n 1, 1) := by decide +kernel
theorem dX5_narrowByDefinition_9 : decode cX5_narrowByDefinition 9 = .ok (.invokevirtual 109, 3) := by decide +kernel
theorem dX5_narrowByDefinition_12 : decode cX5_narrowByDefinition 12 = .ok (.invokevirtual 131, 3) := by decide +kernel
theorem dX5_narrowByDefinition_15 : decode cX5_narrowByDefinition 15 = .ok (.astore_n 2, 1) := by decide +kernel
theorem dX5_narrowByDefinition_16 : decode cX5_narrowByDefinition 16 = .ok (.aload_n 2, 1) := by decide +kernel
theorem dX5_narrowByDefinition_17 : decode cX5_narrowByDefinition 17 = .ok (.ifnonnull 5, 3) := by decide +kernel
theorem dX5_narrowByDefinition_20 : decode cX5_narrowByDefinition 20 = .ok (.iconst 0, 1) := by decide +kernel
theorem dX5_narrowByDefinition_21 : decode cX5_narrowByDefinition 21 = .ok (.ireturn, 1) := by decide +kernel
theorem dX5_narrowByDefinition_22 : decode cX5_narrowByDefinition 22 = .ok (.aload_n 0, 1) := by decide +kernel
theorem dX5_narrowByDefinition_23 : decode cX5_narrowByDefinition 23 = .ok (.getfield 23, 3) := by decide +kernel
theorem dX5_narrowByDefinition_26 : decode cX5_narrowByDefinition 26 = .ok (.getfield 122, 3) := by decide +kernel
theorem dX5_narrowByDefinition_29 : decode cX5_narrowByDefinition 29 = .ok (.aload_n 2, 1) := by decide +kernel
theorem dX5_narrowByDefinition_30 : decode cX5_narrowByDefinition 30 = .ok (.getfield 135, 3) := by decide +kernel
theorem dX5_narrowByDefinition_33 : decode cX5_narrowByDefinition 33 = .ok (.invokevirtual 136, 3) := by decide +kernel
theorem dX5_narrowByDefinition_36 : decode cX5_narrowByDefinition 36 = .ok (.iconst 1, 1) := by decide +kernel
theorem dX5_narrowByDefinition_37 : decode cX5_narrowByDefinition 37 = .ok (.ireturn, 1) := by decide +kernel
set_option maxRecDepth 20000 in
theorem ggX5_retract_X3_sentenceAt : GoodIn wsX5_retract wsX3_sentenceAt := goodIn_r _ [10, 11, 12, 89, 90, 91, 92] (by decide +kernel) (by decide +kernel)
set_option maxRecDepth 20000 in
theorem gX5_retract_X3_sentenceAt : GoodIn wsX5_retract (wsV RX5 131 RX3 yX3_sentenceAt wsX3_sentenceAt) := goodIn_app (goodIn_of _ (by decide +kernel)) ggX5_retract_X3_sentenceAt
set_option maxRecDepth 20000 in
theorem ggX5_retract_X2_isDefinition : GoodIn wsX5_retract wsX2_isDefinition := goodIn_r _ [17, 18, 84, 85, 86, 87, 88] (by decide +kernel) (by decide +kernel)
set_option maxRecDepth 20000 in
theorem gX5_retract_X2_isDefinition : GoodIn wsX5_retract (wsV RX5 141 RX2 yX2_isDefinition wsX2_isDefinition) := goodIn_app (goodIn_of _ (by decide +kernel)) ggX5_retract_X2_isDefinition
set_option maxRecDepth 20000 in
theorem ggX5_retract_X3_isUsed : GoodIn wsX5_retract wsX3_isUsed := goodIn_r _ [22, 11, 23, 24, 7, 8, 9, 10, 12, 25, 26, 27, 89, 90, 91, 92, 84, 85, 86, 87, 88] (by decide +kernel) (by decide +kernel)
set_option maxRecDepth 20000 in
theorem gX5_retract_X3_isUsed : GoodIn wsX5_retract (wsV RX5 145 RX3 yX3_isUsed wsX3_isUsed) := goodIn_app (goodIn_of _ (by decide +kernel)) ggX5_retract_X3_isUsed
set_option maxRecDepth 20000 in
theorem ggX5_retract_X5_recordNow : GoodIn wsX5_retract wsX5_recordNow := goodIn_r _ [31, 32, 33, 34, 35, 9, 1, 36, 37, 38, 26, 39, 40, 41, 42, 43, 44, 45, 46, 12, 47, 48, 49, 50, 51, 52, 53, 54, 55, 56, 57, 58, 59, 60, 61, 62, 11, 63, 64, 65, 66, 67, 68, 69, 70, 71, 72, 77, 78, 79, 80, 81, 82, 83, 89, 90, 91, 92, 93, 94, 95] (by decide +kernel) (by decide +kernel)
set_option maxRecDepth 20000 in
theorem gX5_retract_X5_recordNow : GoodIn wsX5_retract (wsV RX5 89 RX5 yX5_recordNow wsX5_recordNow) := goodIn_app (goodIn_of _ (by decide +kernel)) ggX5_retract_X5_recordNow
set_option maxRecDepth 20000 in
theorem ggX5_retract_X3_removeSentence : GoodIn wsX5_retract wsX3_removeSentence := goodIn_r _ [76, 11, 12, 89, 90, 91, 92] (by decide +kernel) (by decide +kernel)
set_option maxRecDepth 20000 in
theorem gX5_retract_X3_removeSentence : GoodIn wsX5_retract (wsV RX5 148 RX3 yX3_removeSentence wsX3_removeSentence) := goodIn_app (goodIn_of _ (by decide +kernel)) ggX5_retract_X3_removeSentence
theorem dX5_retract_0 : decode cX5_retract 0 = .ok (.aload_n 0, 1) := by decide +kernel
theorem dX5_retract_1 : decode cX5_retract 1 = .ok (.getfield 12, 3) := by decide +kernel
theorem dX5_retract_4 : decode cX5_retract 4 = .ok (.iload_n 1, 1) := by decide +kernel
theorem dX5_retract_5 : decode cX5_retract 5 = .ok (.invokevirtual 131, 3) := by decide +kernel
theorem dX5_retract_8 : decode cX5_retract 8 = .ok (.astore_n 2, 1) := by decide +kernel
theorem dX5_retract_9 : decode cX5_retract 9 = .ok (.aload_n 2, 1) := by decide +kernel
theorem dX5_retract_10 : decode cX5_retract 10 = .ok (.ifnonnull 6, 3) := by decide +kernel
theorem dX5_retract_13 : decode cX5_retract 13 = .ok (.ldc 140, 2) := by decide +kernel
theorem dX5_retract_15 : decode cX5_retract 15 = .ok (.ireturn, 1) := by decide +kernel
theorem dX5_retract_16 : decode cX5_retract 16 = .ok (.aload_n 2, 1) := by decide +kernel
theorem dX5_retract_17 : decode cX5_retract 17 = .ok (.invokevirtual 141, 3) := by decide +kernel
theorem dX5_retract_20 : decode cX5_retract 20 = .ok (.ifCond .eq 23, 3) := by decide +kernel
theorem dX5_retract_23 : decode cX5_retract 23 = .ok (.aload_n 0, 1) := by decide +kernel
theorem dX5_retract_24 : decode cX5_retract 24 = .ok (.getfield 12, 3) := by decide +kernel
theorem dX5_retract_27 : decode cX5_retract 27 = .ok (.aload_n 2, 1) := by decide +kernel
theorem dX5_retract_28 : decode cX5_retract 28 = .ok (.getfield 144, 3) := by decide +kernel
theorem dX5_retract_31 : decode cX5_retract 31 = .ok (.bipush 10, 2) := by decide +kernel
theorem dX5_retract_33 : decode cX5_retract 33 = .ok (.isub, 1) := by decide +kernel
theorem dX5_retract_34 : decode cX5_retract 34 = .ok (.invokevirtual 145, 3) := by decide +kernel
theorem dX5_retract_37 : decode cX5_retract 37 = .ok (.ifCond .eq 6, 3) := by decide +kernel
theorem dX5_retract_40 : decode cX5_retract 40 = .ok (.ldc 75, 2) := by decide +kernel
theorem dX5_retract_42 : decode cX5_retract 42 = .ok (.ireturn, 1) := by decide +kernel
theorem dX5_retract_43 : decode cX5_retract 43 = .ok (.aload_n 0, 1) := by decide +kernel
theorem dX5_retract_44 : decode cX5_retract 44 = .ok (.invokevirtual 89, 3) := by decide +kernel
theorem dX5_retract_47 : decode cX5_retract 47 = .ok (.aload_n 0, 1) := by decide +kernel
theorem dX5_retract_48 : decode cX5_retract 48 = .ok (.getfield 12, 3) := by decide +kernel
theorem dX5_retract_51 : decode cX5_retract 51 = .ok (.iload_n 1, 1) := by decide +kernel
theorem dX5_retract_52 : decode cX5_retract 52 = .ok (.invokevirtual 148, 3) := by decide +kernel
theorem dX5_retract_55 : decode cX5_retract 55 = .ok (.aload_n 0, 1) := by decide +kernel
theorem dX5_retract_56 : decode cX5_retract 56 = .ok (.getfield 12, 3) := by decide +kernel
theorem dX5_retract_59 : decode cX5_retract 59 = .ok (.getfield 86, 3) := by decide +kernel
theorem dX5_retract_62 : decode cX5_retract 62 = .ok (.ireturn, 1) := by decide +kernel
set_option maxRecDepth 20000 in
theorem ggX5_setFact_X5_isFact : GoodIn wsX5_setFact wsX5_isFact := goodIn_r _ [7] (by decide +kernel) (by decide +kernel)
set_option maxRecDepth 20000 in
theorem gX5_setFact_X5_isFact : GoodIn wsX5_setFact (va_wsS RX5 152 yX5_isFact wsX5_isFact) := goodIn_app (goodIn_of _ (by decide +kernel)) ggX5_setFact_X5_isFact
set_option maxRecDepth 20000 in
theorem ggX5_setFact_X5_isValueOf : GoodIn wsX5_setFact wsX5_isValueOf := goodIn_r _ [10, 11, 12, 6, 13, 14, 15, 16, 17] (by decide +kernel) (by decide +kernel)
set_option maxRecDepth 20000 in
theorem gX5_setFact_X5_isValueOf : GoodIn wsX5_setFact (va_wsS RX5 155 yX5_isValueOf wsX5_isValueOf) := goodIn_app (goodIn_of _ (by decide +kernel)) ggX5_setFact_X5_isValueOf
set_option maxRecDepth 20000 in
theorem ggX5_setFact_X5_recordNow : GoodIn wsX5_setFact wsX5_recordNow := goodIn_r _ [21, 22, 23, 24, 25, 26, 2, 27, 28, 29, 6, 30, 31, 32, 33, 34, 35, 36, 37, 38, 39, 40, 41, 42, 43, 44, 45, 46, 47, 48, 49, 50, 51, 52, 53, 54, 55, 56, 57, 58, 59, 60, 61, 62, 63, 64, 65, 66, 67, 68, 69, 70, 71, 72, 73, 74, 75, 76, 77, 78, 79] (by decide +kernel) (by decide +kernel)
set_option maxRecDepth 20000 in
theorem gX5_setFact_X5_recordNow : GoodIn wsX5_setFact (wsV RX5 89 RX5 yX5_recordNow wsX5_recordNow) := goodIn_app (goodIn_of _ (by decide +kernel)) ggX5_setFact_X5_recordNow
theorem dX5_setFact_0 : decode cX5_setFact 0 = .ok (.iload_n 1, 1) := by decide +kernel
theorem dX5_setFact_1 : decode cX5_setFact 1 = .ok (.invokestatic 152, 3) := by decide +kernel
theorem dX5_setFact_4 : decode cX5_setFact 4 = .ok (.ifCond .eq 11, 3) := by decide +kernel
theorem dX5_setFact_7 : decode cX5_setFact 7 = .ok (.iload_n 1, 1) := by decide +kernel
theorem dX5_setFact_8 : decode cX5_setFact 8 = .ok (.iload_n 2, 1) := by decide +kernel
theorem dX5_setFact_9 : decode cX5_setFact 9 = .ok (.invokestatic 155, 3) := by decide +kernel
theorem dX5_setFact_12 : decode cX5_setFact 12 = .ok (.ifCond .ne 6, 3) := by decide +kernel
theorem dX5_setFact_15 : decode cX5_setFact 15 = .ok (.ldc 41, 2) := by decide +kernel
theorem dX5_setFact_17 : decode cX5_setFact 17 = .ok (.ireturn, 1) := by decide +kernel
theorem dX5_setFact_18 : decode cX5_setFact 18 = .ok (.aload_n 0, 1) := by decide +kernel
theorem dX5_setFact_19 : decode cX5_setFact 19 = .ok (.invokevirtual 89, 3) := by decide +kernel
theorem dX5_setFact_22 : decode cX5_setFact 22 = .ok (.aload_n 0, 1) := by decide +kernel
theorem dX5_setFact_23 : decode cX5_setFact 23 = .ok (.getfield 12, 3) := by decide +kernel
theorem dX5_setFact_26 : decode cX5_setFact 26 = .ok (.getfield 158, 3) := by decide +kernel
theorem dX5_setFact_29 : decode cX5_setFact 29 = .ok (.iload_n 1, 1) := by decide +kernel
theorem dX5_setFact_30 : decode cX5_setFact 30 = .ok (.iaload, 1) := by decide +kernel
theorem dX5_setFact_31 : decode cX5_setFact 31 = .ok (.istore_n 3, 1) := by decide +kernel
theorem dX5_setFact_32 : decode cX5_setFact 32 = .ok (.aload_n 0, 1) := by decide +kernel
theorem dX5_setFact_33 : decode cX5_setFact 33 = .ok (.getfield 12, 3) := by decide +kernel
theorem dX5_setFact_36 : decode cX5_setFact 36 = .ok (.getfield 158, 3) := by decide +kernel
theorem dX5_setFact_39 : decode cX5_setFact 39 = .ok (.iload_n 1, 1) := by decide +kernel
theorem dX5_setFact_40 : decode cX5_setFact 40 = .ok (.iload_n 2, 1) := by decide +kernel
theorem dX5_setFact_41 : decode cX5_setFact 41 = .ok (.iastore, 1) := by decide +kernel
theorem dX5_setFact_42 : decode cX5_setFact 42 = .ok (.iload_n 3, 1) := by decide +kernel
theorem dX5_setFact_43 : decode cX5_setFact 43 = .ok (.ireturn, 1) := by decide +kernel
set_option maxRecDepth 20000 in
theorem ggX5_recordNow_X5_dropOldest : GoodIn wsX5_recordNow wsX5_dropOldest := goodIn_r _ [11, 2, 1, 47, 48, 49, 50, 51, 52, 53] (by decide +kernel) (by decide +kernel)
set_option maxRecDepth 20000 in
theorem gX5_recordNow_X5_dropOldest : GoodIn wsX5_recordNow (wsV RX5 164 RX5 yX5_dropOldest wsX5_dropOldest) := goodIn_app (goodIn_of _ (by decide +kernel)) ggX5_recordNow_X5_dropOldest
set_option maxRecDepth 20000 in
theorem ggX5_recordNow_X3_init : GoodIn wsX5_recordNow wsX3_init := goodIn_r _ [14, 15, 16, 17, 18, 19, 20, 21, 22, 23, 24, 25, 26, 27, 28, 29, 30, 31, 54, 55, 56, 57, 58, 59, 60] (by decide +kernel) (by decide +kernel)
set_option maxRecDepth 20000 in
theorem gX5_recordNow_X3_init : GoodIn wsX5_recordNow (wsX3_init) := ggX5_recordNow_X3_init
set_option maxRecDepth 20000 in
theorem ggX5_recordNow_X3_copyFrom : GoodIn wsX5_recordNow wsX3_copyFrom := goodIn_r _ [35, 36, 19, 21, 37, 38, 39, 40, 25, 41, 42, 43, 24, 44, 45, 30, 46, 31, 54, 55, 56, 57, 58, 59, 60] (by decide +kernel) (by decide +kernel)
set_option maxRecDepth 20000 in
theorem gX5_recordNow_X3_copyFrom : GoodIn wsX5_recordNow (wsV RX5 167 RX3 yX3_copyFrom wsX3_copyFrom) := goodIn_app (goodIn_of _ (by decide +kernel)) ggX5_recordNow_X3_copyFrom
theorem dX5_recordNow_0 : decode cX5_recordNow 0 = .ok (.aload_n 0, 1) := by decide +kernel
theorem dX5_recordNow_1 : decode cX5_recordNow 1 = .ok (.getfield 161, 3) := by decide +kernel
theorem dX5_recordNow_4 : decode cX5_recordNow 4 = .ok (.bipush 8, 2) := by decide +kernel
theorem dX5_recordNow_6 : decode cX5_recordNow 6 = .ok (.if_icmp .ne 7, 3) := by decide +kernel
theorem dX5_recordNow_9 : decode cX5_recordNow 9 = .ok (.aload_n 0, 1) := by decide +kernel
theorem dX5_recordNow_10 : decode cX5_recordNow 10 = .ok (.invokevirtual 164, 3) := by decide +kernel
theorem dX5_recordNow_13 : decode cX5_recordNow 13 = .ok (.aload_n 0, 1) := by decide +kernel
theorem dX5_recordNow_14 : decode cX5_recordNow 14 = .ok (.getfield 16, 3) := by decide +kernel
theorem dX5_recordNow_17 : decode cX5_recordNow 17 = .ok (.aload_n 0, 1) := by decide +kernel
theorem dX5_recordNow_18 : decode cX5_recordNow 18 = .ok (.getfield 161, 3) := by decide +kernel
theorem dX5_recordNow_21 : decode cX5_recordNow 21 = .ok (.aaload, 1) := by decide +kernel
theorem dX5_recordNow_22 : decode cX5_recordNow 22 = .ok (.astore_n 1, 1) := by decide +kernel
theorem dX5_recordNow_23 : decode cX5_recordNow 23 = .ok (.aload_n 1, 1) := by decide +kernel
theorem dX5_recordNow_24 : decode cX5_recordNow 24 = .ok (.ifnonnull 21, 3) := by decide +kernel
theorem dX5_recordNow_27 : decode cX5_recordNow 27 = .ok (.new 9, 3) := by decide +kernel
theorem dX5_recordNow_30 : decode cX5_recordNow 30 = .ok (.dup, 1) := by decide +kernel
theorem dX5_recordNow_31 : decode cX5_recordNow 31 = .ok (.invokespecial 11, 3) := by decide +kernel
theorem dX5_recordNow_34 : decode cX5_recordNow 34 = .ok (.astore_n 1, 1) := by decide +kernel
theorem dX5_recordNow_35 : decode cX5_recordNow 35 = .ok (.aload_n 0, 1) := by decide +kernel
theorem dX5_recordNow_36 : decode cX5_recordNow 36 = .ok (.getfield 16, 3) := by decide +kernel
theorem dX5_recordNow_39 : decode cX5_recordNow 39 = .ok (.aload_n 0, 1) := by decide +kernel
theorem dX5_recordNow_40 : decode cX5_recordNow 40 = .ok (.getfield 161, 3) := by decide +kernel
theorem dX5_recordNow_43 : decode cX5_recordNow 43 = .ok (.aload_n 1, 1) := by decide +kernel
theorem dX5_recordNow_44 : decode cX5_recordNow 44 = .ok (.aastore, 1) := by decide +kernel
theorem dX5_recordNow_45 : decode cX5_recordNow 45 = .ok (.aload_n 1, 1) := by decide +kernel
theorem dX5_recordNow_46 : decode cX5_recordNow 46 = .ok (.aload_n 0, 1) := by decide +kernel
theorem dX5_recordNow_47 : decode cX5_recordNow 47 = .ok (.getfield 12, 3) := by decide +kernel
theorem dX5_recordNow_50 : decode cX5_recordNow 50 = .ok (.invokevirtual 167, 3) := by decide +kernel
theorem dX5_recordNow_53 : decode cX5_recordNow 53 = .ok (.aload_n 0, 1) := by decide +kernel
theorem dX5_recordNow_54 : decode cX5_recordNow 54 = .ok (.dup, 1) := by decide +kernel
theorem dX5_recordNow_55 : decode cX5_recordNow 55 = .ok (.getfield 161, 3) := by decide +kernel
theorem dX5_recordNow_58 : decode cX5_recordNow 58 = .ok (.iconst 1, 1) := by decide +kernel
theorem dX5_recordNow_59 : decode cX5_recordNow 59 = .ok (.iadd, 1) := by decide +kernel
theorem dX5_recordNow_60 : decode cX5_recordNow 60 = .ok (.putfield 161, 3) := by decide +kernel
theorem dX5_recordNow_63 : decode cX5_recordNow 63 = .ok (.return_, 1) := by decide +kernel
theorem dX5_dropOldest_0 : decode cX5_dropOldest 0 = .ok (.aload_n 0, 1) := by decide +kernel
theorem dX5_dropOldest_1 : decode cX5_dropOldest 1 = .ok (.getfield 16, 3) := by decide +kernel
theorem dX5_dropOldest_4 : decode cX5_dropOldest 4 = .ok (.iconst 0, 1) := by decide +kernel
theorem dX5_dropOldest_5 : decode cX5_dropOldest 5 = .ok (.aaload, 1) := by decide +kernel
theorem dX5_dropOldest_6 : decode cX5_dropOldest 6 = .ok (.astore_n 1, 1) := by decide +kernel
theorem dX5_dropOldest_7 : decode cX5_dropOldest 7 = .ok (.iconst 1, 1) := by decide +kernel
theorem dX5_dropOldest_8 : decode cX5_dropOldest 8 = .ok (.istore_n 2, 1) := by decide +kernel
theorem dX5_dropOldest_9 : decode cX5_dropOldest 9 = .ok (.iload_n 2, 1) := by decide +kernel
theorem dX5_dropOldest_10 : decode cX5_dropOldest 10 = .ok (.aload_n 0, 1) := by decide +kernel
theorem dX5_dropOldest_11 : decode cX5_dropOldest 11 = .ok (.getfield 16, 3) := by decide +kernel
theorem dX5_dropOldest_14 : decode cX5_dropOldest 14 = .ok (.arraylength, 1) := by decide +kernel
theorem dX5_dropOldest_15 : decode cX5_dropOldest 15 = .ok (.if_icmp .ge 23, 3) := by decide +kernel
theorem dX5_dropOldest_18 : decode cX5_dropOldest 18 = .ok (.aload_n 0, 1) := by decide +kernel
theorem dX5_dropOldest_19 : decode cX5_dropOldest 19 = .ok (.getfield 16, 3) := by decide +kernel
theorem dX5_dropOldest_22 : decode cX5_dropOldest 22 = .ok (.iload_n 2, 1) := by decide +kernel
theorem dX5_dropOldest_23 : decode cX5_dropOldest 23 = .ok (.iconst 1, 1) := by decide +kernel
theorem dX5_dropOldest_24 : decode cX5_dropOldest 24 = .ok (.isub, 1) := by decide +kernel
theorem dX5_dropOldest_25 : decode cX5_dropOldest 25 = .ok (.aload_n 0, 1) := by decide +kernel
theorem dX5_dropOldest_26 : decode cX5_dropOldest 26 = .ok (.getfield 16, 3) := by decide +kernel
theorem dX5_dropOldest_29 : decode cX5_dropOldest 29 = .ok (.iload_n 2, 1) := by decide +kernel
theorem dX5_dropOldest_30 : decode cX5_dropOldest 30 = .ok (.aaload, 1) := by decide +kernel
theorem dX5_dropOldest_31 : decode cX5_dropOldest 31 = .ok (.aastore, 1) := by decide +kernel
theorem dX5_dropOldest_32 : decode cX5_dropOldest 32 = .ok (.iinc 2 1, 3) := by decide +kernel
theorem dX5_dropOldest_35 : decode cX5_dropOldest 35 = .ok (.goto (-26), 3) := by decide +kernel
theorem dX5_dropOldest_38 : decode cX5_dropOldest 38 = .ok (.aload_n 0, 1) := by decide +kernel
theorem dX5_dropOldest_39 : decode cX5_dropOldest 39 = .ok (.getfield 16, 3) := by decide +kernel
theorem dX5_dropOldest_42 : decode cX5_dropOldest 42 = .ok (.aload_n 0, 1) := by decide +kernel
theorem dX5_dropOldest_43 : decode cX5_dropOldest 43 = .ok (.getfield 16, 3) := by decide +kernel
theorem dX5_dropOldest_46 : decode cX5_dropOldest 46 = .ok (.arraylength, 1) := by decide +kernel
theorem dX5_dropOldest_47 : decode cX5_dropOldest 47 = .ok (.iconst 1, 1) := by decide +kernel
theorem dX5_dropOldest_48 : decode cX5_dropOldest 48 = .ok (.isub, 1) := by decide +kernel
theorem dX5_dropOldest_49 : decode cX5_dropOldest 49 = .ok (.aload_n 1, 1) := by decide +kernel
theorem dX5_dropOldest_50 : decode cX5_dropOldest 50 = .ok (.aastore, 1) := by decide +kernel
theorem dX5_dropOldest_51 : decode cX5_dropOldest 51 = .ok (.aload_n 0, 1) := by decide +kernel
theorem dX5_dropOldest_52 : decode cX5_dropOldest 52 = .ok (.dup, 1) := by decide +kernel
theorem dX5_dropOldest_53 : decode cX5_dropOldest 53 = .ok (.getfield 161, 3) := by decide +kernel
theorem dX5_dropOldest_56 : decode cX5_dropOldest 56 = .ok (.iconst 1, 1) := by decide +kernel
theorem dX5_dropOldest_57 : decode cX5_dropOldest 57 = .ok (.isub, 1) := by decide +kernel
theorem dX5_dropOldest_58 : decode cX5_dropOldest 58 = .ok (.putfield 161, 3) := by decide +kernel
theorem dX5_dropOldest_61 : decode cX5_dropOldest 61 = .ok (.return_, 1) := by decide +kernel
set_option maxRecDepth 20000 in
theorem ggX5_undo_X3_copyFrom : GoodIn wsX5_undo wsX3_copyFrom := goodIn_r _ [9, 10, 11, 12, 13, 14, 15, 16, 17, 18, 19, 20, 21, 22, 23, 24, 25, 26, 34, 35, 36, 37, 38, 39, 40] (by decide +kernel) (by decide +kernel)
set_option maxRecDepth 20000 in
theorem gX5_undo_X3_copyFrom : GoodIn wsX5_undo (wsV RX5 167 RX3 yX3_copyFrom wsX3_copyFrom) := goodIn_app (goodIn_of _ (by decide +kernel)) ggX5_undo_X3_copyFrom
theorem dX5_undo_0 : decode cX5_undo 0 = .ok (.aload_n 0, 1) := by decide +kernel
theorem dX5_undo_1 : decode cX5_undo 1 = .ok (.getfield 161, 3) := by decide +kernel
theorem dX5_undo_4 : decode cX5_undo 4 = .ok (.ifCond .ne 6, 3) := by decide +kernel
theorem dX5_undo_7 : decode cX5_undo 7 = .ok (.ldc 105, 2) := by decide +kernel
theorem dX5_undo_9 : decode cX5_undo 9 = .ok (.ireturn, 1) := by decide +kernel
theorem dX5_undo_10 : decode cX5_undo 10 = .ok (.aload_n 0, 1) := by decide +kernel
theorem dX5_undo_11 : decode cX5_undo 11 = .ok (.getfield 16, 3) := by decide +kernel
theorem dX5_undo_14 : decode cX5_undo 14 = .ok (.aload_n 0, 1) := by decide +kernel
theorem dX5_undo_15 : decode cX5_undo 15 = .ok (.getfield 161, 3) := by decide +kernel
theorem dX5_undo_18 : decode cX5_undo 18 = .ok (.iconst 1, 1) := by decide +kernel
theorem dX5_undo_19 : decode cX5_undo 19 = .ok (.isub, 1) := by decide +kernel
theorem dX5_undo_20 : decode cX5_undo 20 = .ok (.aaload, 1) := by decide +kernel
theorem dX5_undo_21 : decode cX5_undo 21 = .ok (.astore_n 1, 1) := by decide +kernel
theorem dX5_undo_22 : decode cX5_undo 22 = .ok (.aload_n 1, 1) := by decide +kernel
theorem dX5_undo_23 : decode cX5_undo 23 = .ok (.ifnonnull 6, 3) := by decide +kernel
theorem dX5_undo_26 : decode cX5_undo 26 = .ok (.ldc 105, 2) := by decide +kernel
theorem dX5_undo_28 : decode cX5_undo 28 = .ok (.ireturn, 1) := by decide +kernel
theorem dX5_undo_29 : decode cX5_undo 29 = .ok (.aload_n 0, 1) := by decide +kernel
theorem dX5_undo_30 : decode cX5_undo 30 = .ok (.getfield 12, 3) := by decide +kernel
theorem dX5_undo_33 : decode cX5_undo 33 = .ok (.aload_n 1, 1) := by decide +kernel
theorem dX5_undo_34 : decode cX5_undo 34 = .ok (.invokevirtual 167, 3) := by decide +kernel
theorem dX5_undo_37 : decode cX5_undo 37 = .ok (.aload_n 0, 1) := by decide +kernel
theorem dX5_undo_38 : decode cX5_undo 38 = .ok (.dup, 1) := by decide +kernel
theorem dX5_undo_39 : decode cX5_undo 39 = .ok (.getfield 161, 3) := by decide +kernel
theorem dX5_undo_42 : decode cX5_undo 42 = .ok (.iconst 1, 1) := by decide +kernel
theorem dX5_undo_43 : decode cX5_undo 43 = .ok (.isub, 1) := by decide +kernel
theorem dX5_undo_44 : decode cX5_undo 44 = .ok (.putfield 161, 3) := by decide +kernel
theorem dX5_undo_47 : decode cX5_undo 47 = .ok (.aload_n 0, 1) := by decide +kernel
theorem dX5_undo_48 : decode cX5_undo 48 = .ok (.getfield 161, 3) := by decide +kernel
theorem dX5_undo_51 : decode cX5_undo 51 = .ok (.ireturn, 1) := by decide +kernel
theorem dX5_sentences_0 : decode cX5_sentences 0 = .ok (.aload_n 0, 1) := by decide +kernel
theorem dX5_sentences_1 : decode cX5_sentences 1 = .ok (.getfield 12, 3) := by decide +kernel
theorem dX5_sentences_4 : decode cX5_sentences 4 = .ok (.getfield 86, 3) := by decide +kernel
theorem dX5_sentences_7 : decode cX5_sentences 7 = .ok (.ireturn, 1) := by decide +kernel
set_option maxRecDepth 20000 in
theorem ggX5_about_X3_sentenceAt : GoodIn wsX5_about wsX3_sentenceAt := goodIn_r _ [8, 9, 10, 23, 24, 25, 26] (by decide +kernel) (by decide +kernel)
set_option maxRecDepth 20000 in
theorem gX5_about_X3_sentenceAt : GoodIn wsX5_about (wsV RX5 131 RX3 yX3_sentenceAt wsX3_sentenceAt) := goodIn_app (goodIn_of _ (by decide +kernel)) ggX5_about_X3_sentenceAt
theorem dX5_about_0 : decode cX5_about 0 = .ok (.aload_n 0, 1) := by decide +kernel
theorem dX5_about_1 : decode cX5_about 1 = .ok (.getfield 12, 3) := by decide +kernel
theorem dX5_about_4 : decode cX5_about 4 = .ok (.iload_n 1, 1) := by decide +kernel
theorem dX5_about_5 : decode cX5_about 5 = .ok (.invokevirtual 131, 3) := by decide +kernel
theorem dX5_about_8 : decode cX5_about 8 = .ok (.astore_n 2, 1) := by decide +kernel
theorem dX5_about_9 : decode cX5_about 9 = .ok (.aload_n 2, 1) := by decide +kernel
theorem dX5_about_10 : decode cX5_about 10 = .ok (.ifnonnull 8, 3) := by decide +kernel
theorem dX5_about_13 : decode cX5_about 13 = .ok (.ldc 140, 2) := by decide +kernel
theorem dX5_about_15 : decode cX5_about 15 = .ok (.goto 7, 3) := by decide +kernel
theorem dX5_about_18 : decode cX5_about 18 = .ok (.aload_n 2, 1) := by decide +kernel
theorem dX5_about_19 : decode cX5_about 19 = .ok (.getfield 144, 3) := by decide +kernel
theorem dX5_about_22 : decode cX5_about 22 = .ok (.ireturn, 1) := by decide +kernel
set_option maxRecDepth 20000 in
theorem ggX5_gives_X3_sentenceAt : GoodIn wsX5_gives wsX3_sentenceAt := goodIn_r _ [9, 10, 11, 30, 31, 32, 33] (by decide +kernel) (by decide +kernel)
set_option maxRecDepth 20000 in
theorem gX5_gives_X3_sentenceAt : GoodIn wsX5_gives (wsV RX5 131 RX3 yX3_sentenceAt wsX3_sentenceAt) := goodIn_app (goodIn_of _ (by decide +kernel)) ggX5_gives_X3_sentenceAt
set_option maxRecDepth 20000 in
theorem ggX5_gives_X2_isDefinition : GoodIn wsX5_gives wsX2_isDefinition := goodIn_r _ [16, 17, 25, 26, 27, 28, 29] (by decide +kernel) (by decide +kernel)
set_option maxRecDepth 20000 in
theorem gX5_gives_X2_isDefinition : GoodIn wsX5_gives (wsV RX5 141 RX2 yX2_isDefinition wsX2_isDefinition) := goodIn_app (goodIn_of _ (by decide +kernel)) ggX5_gives_X2_isDefinition
theorem dX5_gives_0 : decode cX5_gives 0 = .ok (.aload_n 0, 1) := by decide +kernel
theorem dX5_gives_1 : decode cX5_gives 1 = .ok (.getfield 12, 3) := by decide +kernel
theorem dX5_gives_4 : decode cX5_gives 4 = .ok (.iload_n 1, 1) := by decide +kernel
theorem dX5_gives_5 : decode cX5_gives 5 = .ok (.invokevirtual 131, 3) := by decide +kernel
theorem dX5_gives_8 : decode cX5_gives 8 = .ok (.astore_n 2, 1) := by decide +kernel
theorem dX5_gives_9 : decode cX5_gives 9 = .ok (.aload_n 2, 1) := by decide +kernel
theorem dX5_gives_10 : decode cX5_gives 10 = .ok (.ifnonnull 6, 3) := by decide +kernel
theorem dX5_gives_13 : decode cX5_gives 13 = .ok (.ldc 140, 2) := by decide +kernel
theorem dX5_gives_15 : decode cX5_gives 15 = .ok (.ireturn, 1) := by decide +kernel
theorem dX5_gives_16 : decode cX5_gives 16 = .ok (.aload_n 2, 1) := by decide +kernel
theorem dX5_gives_17 : decode cX5_gives 17 = .ok (.invokevirtual 141, 3) := by decide +kernel
theorem dX5_gives_20 : decode cX5_gives 20 = .ok (.ifCond .eq 8, 3) := by decide +kernel
theorem dX5_gives_23 : decode cX5_gives 23 = .ok (.ldc 105, 2) := by decide +kernel
theorem dX5_gives_25 : decode cX5_gives 25 = .ok (.goto 7, 3) := by decide +kernel
theorem dX5_gives_28 : decode cX5_gives 28 = .ok (.aload_n 2, 1) := by decide +kernel
theorem dX5_gives_29 : decode cX5_gives 29 = .ok (.getfield 171, 3) := by decide +kernel
theorem dX5_gives_32 : decode cX5_gives 32 = .ok (.ireturn, 1) := by decide +kernel
set_option maxRecDepth 20000 in
theorem ggX5_least_X3_sentenceAt : GoodIn wsX5_least wsX3_sentenceAt := goodIn_r _ [10, 11, 12, 31, 32, 33, 34] (by decide +kernel) (by decide +kernel)
set_option maxRecDepth 20000 in
theorem gX5_least_X3_sentenceAt : GoodIn wsX5_least (wsV RX5 131 RX3 yX3_sentenceAt wsX3_sentenceAt) := goodIn_app (goodIn_of _ (by decide +kernel)) ggX5_least_X3_sentenceAt
set_option maxRecDepth 20000 in
theorem ggX5_least_X5_isFact : GoodIn wsX5_least wsX5_isFact := goodIn_r _ [16] (by decide +kernel) (by decide +kernel)
set_option maxRecDepth 20000 in
theorem gX5_least_X5_isFact : GoodIn wsX5_least (va_wsS RX5 152 yX5_isFact wsX5_isFact) := goodIn_app (goodIn_of _ (by decide +kernel)) ggX5_least_X5_isFact
theorem dX5_least_0 : decode cX5_least 0 = .ok (.aload_n 0, 1) := by decide +kernel
theorem dX5_least_1 : decode cX5_least 1 = .ok (.getfield 12, 3) := by decide +kernel
theorem dX5_least_4 : decode cX5_least 4 = .ok (.iload_n 1, 1) := by decide +kernel
theorem dX5_least_5 : decode cX5_least 5 = .ok (.invokevirtual 131, 3) := by decide +kernel
theorem dX5_least_8 : decode cX5_least 8 = .ok (.astore_n 3, 1) := by decide +kernel
theorem dX5_least_9 : decode cX5_least 9 = .ok (.aload_n 3, 1) := by decide +kernel
theorem dX5_least_10 : decode cX5_least 10 = .ok (.ifnonnull 6, 3) := by decide +kernel
theorem dX5_least_13 : decode cX5_least 13 = .ok (.ldc 140, 2) := by decide +kernel
theorem dX5_least_15 : decode cX5_least 15 = .ok (.ireturn, 1) := by decide +kernel
theorem dX5_least_16 : decode cX5_least 16 = .ok (.iload_n 2, 1) := by decide +kernel
theorem dX5_least_17 : decode cX5_least 17 = .ok (.invokestatic 152, 3) := by decide +kernel
theorem dX5_least_20 : decode cX5_least 20 = .ok (.ifCond .eq 15, 3) := by decide +kernel
theorem dX5_least_23 : decode cX5_least 23 = .ok (.aload_n 3, 1) := by decide +kernel
theorem dX5_least_24 : decode cX5_least 24 = .ok (.getfield 135, 3) := by decide +kernel
theorem dX5_least_27 : decode cX5_least 27 = .ok (.getfield 174, 3) := by decide +kernel
theorem dX5_least_30 : decode cX5_least 30 = .ok (.iload_n 2, 1) := by decide +kernel
theorem dX5_least_31 : decode cX5_least 31 = .ok (.iaload, 1) := by decide +kernel
theorem dX5_least_32 : decode cX5_least 32 = .ok (.goto 5, 3) := by decide +kernel
theorem dX5_least_35 : decode cX5_least 35 = .ok (.ldc 41, 2) := by decide +kernel
theorem dX5_least_37 : decode cX5_least 37 = .ok (.ireturn, 1) := by decide +kernel
set_option maxRecDepth 20000 in
theorem ggX5_greatest_X3_sentenceAt : GoodIn wsX5_greatest wsX3_sentenceAt := goodIn_r _ [10, 11, 12, 31, 32, 33, 34] (by decide +kernel) (by decide +kernel)
set_option maxRecDepth 20000 in
theorem gX5_greatest_X3_sentenceAt : GoodIn wsX5_greatest (wsV RX5 131 RX3 yX3_sentenceAt wsX3_sentenceAt) := goodIn_app (goodIn_of _ (by decide +kernel)) ggX5_greatest_X3_sentenceAt
set_option maxRecDepth 20000 in
theorem ggX5_greatest_X5_isFact : GoodIn wsX5_greatest wsX5_isFact := goodIn_r _ [16] (by decide +kernel) (by decide +kernel)
set_option maxRecDepth 20000 in
theorem gX5_greatest_X5_isFact : GoodIn wsX5_greatest (va_wsS RX5 152 yX5_isFact wsX5_isFact) := goodIn_app (goodIn_of _ (by decide +kernel)) ggX5_greatest_X5_isFact
theorem dX5_greatest_0 : decode cX5_greatest 0 = .ok (.aload_n 0, 1) := by decide +kernel
theorem dX5_greatest_1 : decode cX5_greatest 1 = .ok (.getfield 12, 3) := by decide +kernel
theorem dX5_greatest_4 : decode cX5_greatest 4 = .ok (.iload_n 1, 1) := by decide +kernel
theorem dX5_greatest_5 : decode cX5_greatest 5 = .ok (.invokevirtual 131, 3) := by decide +kernel
theorem dX5_greatest_8 : decode cX5_greatest 8 = .ok (.astore_n 3, 1) := by decide +kernel
theorem dX5_greatest_9 : decode cX5_greatest 9 = .ok (.aload_n 3, 1) := by decide +kernel
theorem dX5_greatest_10 : decode cX5_greatest 10 = .ok (.ifnonnull 6, 3) := by decide +kernel
theorem dX5_greatest_13 : decode cX5_greatest 13 = .ok (.ldc 140, 2) := by decide +kernel
theorem dX5_greatest_15 : decode cX5_greatest 15 = .ok (.ireturn, 1) := by decide +kernel
theorem dX5_greatest_16 : decode cX5_greatest 16 = .ok (.iload_n 2, 1) := by decide +kernel
theorem dX5_greatest_17 : decode cX5_greatest 17 = .ok (.invokestatic 152, 3) := by decide +kernel
theorem dX5_greatest_20 : decode cX5_greatest 20 = .ok (.ifCond .eq 15, 3) := by decide +kernel
theorem dX5_greatest_23 : decode cX5_greatest 23 = .ok (.aload_n 3, 1) := by decide +kernel
theorem dX5_greatest_24 : decode cX5_greatest 24 = .ok (.getfield 135, 3) := by decide +kernel
theorem dX5_greatest_27 : decode cX5_greatest 27 = .ok (.getfield 177, 3) := by decide +kernel
theorem dX5_greatest_30 : decode cX5_greatest 30 = .ok (.iload_n 2, 1) := by decide +kernel
theorem dX5_greatest_31 : decode cX5_greatest 31 = .ok (.iaload, 1) := by decide +kernel
theorem dX5_greatest_32 : decode cX5_greatest 32 = .ok (.goto 5, 3) := by decide +kernel
theorem dX5_greatest_35 : decode cX5_greatest 35 = .ok (.ldc 41, 2) := by decide +kernel
theorem dX5_greatest_37 : decode cX5_greatest 37 = .ok (.ireturn, 1) := by decide +kernel
set_option maxRecDepth 20000 in
theorem ggX5_sharpness_X3_sentenceAt : GoodIn wsX5_sharpness wsX3_sentenceAt := goodIn_r _ [8, 9, 10, 36, 37, 38, 39] (by decide +kernel) (by decide +kernel)
set_option maxRecDepth 20000 in
theorem gX5_sharpness_X3_sentenceAt : GoodIn wsX5_sharpness (wsV RX5 131 RX3 yX3_sentenceAt wsX3_sentenceAt) := goodIn_app (goodIn_of _ (by decide +kernel)) ggX5_sharpness_X3_sentenceAt
set_option maxRecDepth 20000 in
theorem ggX5_sharpness_X1_limitedFacts : GoodIn wsX5_sharpness wsX1_limitedFacts := goodIn_r _ [15, 16, 17, 18, 19, 20, 21, 22, 23, 40, 41] (by decide +kernel) (by decide +kernel)
set_option maxRecDepth 20000 in
theorem gX5_sharpness_X1_limitedFacts : GoodIn wsX5_sharpness (wsV RX5 180 RX1 yX1_limitedFacts wsX1_limitedFacts) := goodIn_app (goodIn_of _ (by decide +kernel)) ggX5_sharpness_X1_limitedFacts
theorem dX5_sharpness_0 : decode cX5_sharpness 0 = .ok (.aload_n 0, 1) := by decide +kernel
theorem dX5_sharpness_1 : decode cX5_sharpness 1 = .ok (.getfield 12, 3) := by decide +kernel
theorem dX5_sharpness_4 : decode cX5_sharpness 4 = .ok (.iload_n 1, 1) := by decide +kernel
theorem dX5_sharpness_5 : decode cX5_sharpness 5 = .ok (.invokevirtual 131, 3) := by decide +kernel
theorem dX5_sharpness_8 : decode cX5_sharpness 8 = .ok (.astore_n 2, 1) := by decide +kernel
theorem dX5_sharpness_9 : decode cX5_sharpness 9 = .ok (.aload_n 2, 1) := by decide +kernel
theorem dX5_sharpness_10 : decode cX5_sharpness 10 = .ok (.ifnonnull 8, 3) := by decide +kernel
theorem dX5_sharpness_13 : decode cX5_sharpness 13 = .ok (.ldc 140, 2) := by decide +kernel
theorem dX5_sharpness_15 : decode cX5_sharpness 15 = .ok (.goto 10, 3) := by decide +kernel
theorem dX5_sharpness_18 : decode cX5_sharpness 18 = .ok (.aload_n 2, 1) := by decide +kernel
theorem dX5_sharpness_19 : decode cX5_sharpness 19 = .ok (.getfield 135, 3) := by decide +kernel
theorem dX5_sharpness_22 : decode cX5_sharpness 22 = .ok (.invokevirtual 180, 3) := by decide +kernel
theorem dX5_sharpness_25 : decode cX5_sharpness 25 = .ok (.ireturn, 1) := by decide +kernel
set_option maxRecDepth 20000 in
theorem ggX5_uses_X3_sentenceAt : GoodIn wsX5_uses wsX3_sentenceAt := goodIn_r _ [8, 9, 10, 23, 24, 25, 26] (by decide +kernel) (by decide +kernel)
set_option maxRecDepth 20000 in
theorem gX5_uses_X3_sentenceAt : GoodIn wsX5_uses (wsV RX5 131 RX3 yX3_sentenceAt wsX3_sentenceAt) := goodIn_app (goodIn_of _ (by decide +kernel)) ggX5_uses_X3_sentenceAt
theorem dX5_uses_0 : decode cX5_uses 0 = .ok (.aload_n 0, 1) := by decide +kernel
theorem dX5_uses_1 : decode cX5_uses 1 = .ok (.getfield 12, 3) := by decide +kernel
theorem dX5_uses_4 : decode cX5_uses 4 = .ok (.iload_n 1, 1) := by decide +kernel
theorem dX5_uses_5 : decode cX5_uses 5 = .ok (.invokevirtual 131, 3) := by decide +kernel
theorem dX5_uses_8 : decode cX5_uses 8 = .ok (.astore_n 2, 1) := by decide +kernel
theorem dX5_uses_9 : decode cX5_uses 9 = .ok (.aload_n 2, 1) := by decide +kernel
theorem dX5_uses_10 : decode cX5_uses 10 = .ok (.ifnonnull 8, 3) := by decide +kernel
theorem dX5_uses_13 : decode cX5_uses 13 = .ok (.ldc 140, 2) := by decide +kernel
theorem dX5_uses_15 : decode cX5_uses 15 = .ok (.goto 7, 3) := by decide +kernel
theorem dX5_uses_18 : decode cX5_uses 18 = .ok (.aload_n 2, 1) := by decide +kernel
theorem dX5_uses_19 : decode cX5_uses 19 = .ok (.getfield 184, 3) := by decide +kernel
theorem dX5_uses_22 : decode cX5_uses 22 = .ok (.ireturn, 1) := by decide +kernel
set_option maxRecDepth 20000 in
theorem ggX5_fact_X5_isFact : GoodIn wsX5_fact wsX5_isFact := goodIn_r _ [7] (by decide +kernel) (by decide +kernel)
set_option maxRecDepth 20000 in
theorem gX5_fact_X5_isFact : GoodIn wsX5_fact (va_wsS RX5 152 yX5_isFact wsX5_isFact) := goodIn_app (goodIn_of _ (by decide +kernel)) ggX5_fact_X5_isFact
theorem dX5_fact_0 : decode cX5_fact 0 = .ok (.iload_n 1, 1) := by decide +kernel
theorem dX5_fact_1 : decode cX5_fact 1 = .ok (.invokestatic 152, 3) := by decide +kernel
theorem dX5_fact_4 : decode cX5_fact 4 = .ok (.ifCond .eq 15, 3) := by decide +kernel
theorem dX5_fact_7 : decode cX5_fact 7 = .ok (.aload_n 0, 1) := by decide +kernel
theorem dX5_fact_8 : decode cX5_fact 8 = .ok (.getfield 12, 3) := by decide +kernel
theorem dX5_fact_11 : decode cX5_fact 11 = .ok (.getfield 158, 3) := by decide +kernel
theorem dX5_fact_14 : decode cX5_fact 14 = .ok (.iload_n 1, 1) := by decide +kernel
theorem dX5_fact_15 : decode cX5_fact 15 = .ok (.iaload, 1) := by decide +kernel
theorem dX5_fact_16 : decode cX5_fact 16 = .ok (.goto 5, 3) := by decide +kernel
theorem dX5_fact_19 : decode cX5_fact 19 = .ok (.ldc 41, 2) := by decide +kernel
theorem dX5_fact_21 : decode cX5_fact 21 = .ok (.ireturn, 1) := by decide +kernel
set_option maxRecDepth 20000 in
theorem ggX5_definition_X5_isDefinable : GoodIn wsX5_definition wsX5_isDefinable := goodIn_r _ [7] (by decide +kernel) (by decide +kernel)
set_option maxRecDepth 20000 in
theorem gX5_definition_X5_isDefinable : GoodIn wsX5_definition (va_wsS RX5 185 yX5_isDefinable wsX5_isDefinable) := goodIn_app (goodIn_of _ (by decide +kernel)) ggX5_definition_X5_isDefinable
set_option maxRecDepth 20000 in
theorem ggX5_definition_X3_definitionOf : GoodIn wsX5_definition wsX3_definitionOf := goodIn_r _ [12, 13, 14, 15, 16, 17, 11, 18, 19, 27, 28, 29, 30, 31, 32, 33, 34, 35] (by decide +kernel) (by decide +kernel)
set_option maxRecDepth 20000 in
theorem gX5_definition_X3_definitionOf : GoodIn wsX5_definition (wsV RX5 109 RX3 yX3_definitionOf wsX3_definitionOf) := goodIn_app (goodIn_of _ (by decide +kernel)) ggX5_definition_X3_definitionOf
theorem dX5_definition_0 : decode cX5_definition 0 = .ok (.iload_n 1, 1) := by decide +kernel
theorem dX5_definition_1 : decode cX5_definition 1 = .ok (.invokestatic 185, 3) := by decide +kernel
theorem dX5_definition_4 : decode cX5_definition 4 = .ok (.ifCond .ne 6, 3) := by decide +kernel
theorem dX5_definition_7 : decode cX5_definition 7 = .ok (.ldc 41, 2) := by decide +kernel
theorem dX5_definition_9 : decode cX5_definition 9 = .ok (.ireturn, 1) := by decide +kernel
theorem dX5_definition_10 : decode cX5_definition 10 = .ok (.aload_n 0, 1) := by decide +kernel
theorem dX5_definition_11 : decode cX5_definition 11 = .ok (.getfield 12, 3) := by decide +kernel
theorem dX5_definition_14 : decode cX5_definition 14 = .ok (.iload_n 1, 1) := by decide +kernel
theorem dX5_definition_15 : decode cX5_definition 15 = .ok (.invokevirtual 109, 3) := by decide +kernel
theorem dX5_definition_18 : decode cX5_definition 18 = .ok (.istore_n 2, 1) := by decide +kernel
theorem dX5_definition_19 : decode cX5_definition 19 = .ok (.iload_n 2, 1) := by decide +kernel
theorem dX5_definition_20 : decode cX5_definition 20 = .ok (.iconst (-1), 1) := by decide +kernel
theorem dX5_definition_21 : decode cX5_definition 21 = .ok (.if_icmp .ne 8, 3) := by decide +kernel
theorem dX5_definition_24 : decode cX5_definition 24 = .ok (.ldc 105, 2) := by decide +kernel
theorem dX5_definition_26 : decode cX5_definition 26 = .ok (.goto 4, 3) := by decide +kernel
theorem dX5_definition_29 : decode cX5_definition 29 = .ok (.iload_n 2, 1) := by decide +kernel
theorem dX5_definition_30 : decode cX5_definition 30 = .ok (.ireturn, 1) := by decide +kernel
set_option maxRecDepth 20000 in
theorem ggX5_length_X3_sentenceAt : GoodIn wsX5_length wsX3_sentenceAt := goodIn_r _ [8, 9, 10, 35, 36, 37, 38] (by decide +kernel) (by decide +kernel)
set_option maxRecDepth 20000 in
theorem gX5_length_X3_sentenceAt : GoodIn wsX5_length (wsV RX5 131 RX3 yX3_sentenceAt wsX3_sentenceAt) := goodIn_app (goodIn_of _ (by decide +kernel)) ggX5_length_X3_sentenceAt
set_option maxRecDepth 20000 in
theorem ggX5_length_J0_length_8abf5 : GoodIn wsX5_length wsJ0_length_8abf5 := goodIn_r _ [15, 16, 17, 18, 19, 14, 20, 21, 22, 39, 40, 41, 42] (by decide +kernel) (by decide +kernel)
set_option maxRecDepth 20000 in
theorem gX5_length_J0_length_8abf5 : GoodIn wsX5_length (wsV RX5 192 RJ0 yJ0_length_8abf5 wsJ0_length_8abf5) := goodIn_app (goodIn_of _ (by decide +kernel)) ggX5_length_J0_length_8abf5
theorem dX5_length_0 : decode cX5_length 0 = .ok (.aload_n 0, 1) := by decide +kernel
theorem dX5_length_1 : decode cX5_length 1 = .ok (.getfield 12, 3) := by decide +kernel
theorem dX5_length_4 : decode cX5_length 4 = .ok (.iload_n 1, 1) := by decide +kernel
theorem dX5_length_5 : decode cX5_length 5 = .ok (.invokevirtual 131, 3) := by decide +kernel
theorem dX5_length_8 : decode cX5_length 8 = .ok (.astore_n 2, 1) := by decide +kernel
theorem dX5_length_9 : decode cX5_length 9 = .ok (.aload_n 2, 1) := by decide +kernel
theorem dX5_length_10 : decode cX5_length 10 = .ok (.ifnonnull 8, 3) := by decide +kernel
theorem dX5_length_13 : decode cX5_length 13 = .ok (.ldc 140, 2) := by decide +kernel
theorem dX5_length_15 : decode cX5_length 15 = .ok (.goto 10, 3) := by decide +kernel
theorem dX5_length_18 : decode cX5_length 18 = .ok (.aload_n 2, 1) := by decide +kernel
theorem dX5_length_19 : decode cX5_length 19 = .ok (.getfield 188, 3) := by decide +kernel
theorem dX5_length_22 : decode cX5_length 22 = .ok (.invokevirtual 192, 3) := by decide +kernel
theorem dX5_length_25 : decode cX5_length 25 = .ok (.ireturn, 1) := by decide +kernel
set_option maxRecDepth 20000 in
theorem ggX5_textOf_J4_setLength_d00df : GoodIn wsX5_textOf wsJ4_setLength_d00df := goodIn_r _ [9, 10, 11, 12, 13, 14, 15, 16, 17, 18, 19, 20, 21, 22, 23, 24, 25, 26, 27, 28, 29, 30, 31, 32, 33, 34, 35, 36, 37, 38, 39, 40, 41, 42, 43, 44, 45, 46, 47, 48, 49, 50, 51, 52, 53, 54, 55, 56, 57, 58, 59, 60, 61, 62, 63, 64, 65, 66, 67, 68, 69, 70, 71, 72, 73, 74, 75, 76, 77, 78, 79, 80, 81, 314, 315, 316, 317] (by decide +kernel) (by decide +kernel)
set_option maxRecDepth 20000 in
theorem gX5_textOf_J4_setLength_d00df : GoodIn wsX5_textOf (wsV RX5 201 RJ4 yJ4_setLength_d00df wsJ4_setLength_d00df) := goodIn_app (goodIn_of _ (by decide +kernel)) ggX5_textOf_J4_setLength_d00df
set_option maxRecDepth 20000 in
theorem ggX5_textOf_J4_append_cf468 : GoodIn wsX5_textOf wsJ4_append_cf468 := goodIn_r _ [85, 86, 87, 12, 88, 14, 89, 16, 17, 19, 20, 21, 22, 23, 24, 25, 26, 27, 28, 29, 30, 31, 32, 33, 34, 35, 36, 37, 38, 39, 40, 41, 42, 43, 44, 45, 46, 47, 48, 49, 50, 51, 52, 53, 54, 55, 56, 57, 58, 59, 60, 61, 62, 63, 64, 65, 66, 90, 91, 69, 92, 93, 94, 95, 96, 97, 98, 99, 79, 100, 101, 102, 103, 104, 105, 106, 107, 108, 109, 110, 111, 112, 113, 114, 115, 116, 117, 118, 119, 120, 121, 122, 123, 124, 125, 126, 127, 128, 129, 130, 131, 132, 133, 134, 135, 136, 137, 138, 139, 140, 141, 142, 143, 314, 315, 316, 317] (by decide +kernel) (by decide +kernel)
set_option maxRecDepth 20000 in
theorem gX5_textOf_J4_append_cf468 : GoodIn wsX5_textOf (wsV RX5 204 RJ4 yJ4_append_cf468 wsJ4_append_cf468) := goodIn_app (goodIn_of _ (by decide +kernel)) ggX5_textOf_J4_append_cf468
set_option maxRecDepth 20000 in
theorem ggX5_textOf_X5_writeToken : GoodIn wsX5_textOf wsX5_writeToken := goodIn_r _ [148, 1, 149, 150, 147, 151, 152, 153, 154, 8, 155, 156, 157, 12, 158, 14, 159, 16, 160, 161, 162, 163, 164, 17, 19, 20, 21, 22, 23, 24, 25, 26, 27, 28, 29, 30, 31, 32, 33, 34, 35, 36, 37, 38, 39, 40, 41, 42, 43, 44, 45, 46, 47, 48, 49, 50, 51, 52, 53, 54, 55, 56, 57, 58, 59, 60, 61, 62, 63, 64, 65, 66, 165, 166, 79, 167, 129, 168, 169, 170, 114, 115, 116, 171, 172, 119, 173, 121, 174, 175, 124, 176, 126, 127, 128, 130, 131, 177, 178, 179, 180, 181, 182, 183, 184, 185, 186, 187, 188, 189, 190, 191, 192, 193, 194, 195, 196, 197, 198, 93, 94, 95, 96, 97, 98, 99, 100, 101, 102, 103, 104, 105, 106, 69, 107, 108, 109, 110, 111, 112, 113, 117, 118, 120, 122, 123, 125, 199, 200, 201, 202, 203, 204, 205, 206, 207, 208, 209, 210, 211, 212, 213, 214, 215, 216, 217, 218, 219, 220, 221, 222, 223, 224, 225, 226, 227, 228, 229, 230, 231, 232, 233, 234, 235, 236, 237, 238, 239, 240, 241, 242, 243, 244, 245, 246, 82, 83, 84, 85, 86, 87, 88, 89, 90, 91, 92, 132, 133, 134, 135, 136, 137, 138, 139, 140, 141, 142, 143, 247, 248, 249, 250, 304, 305, 306, 307, 308, 309, 310, 314, 315, 316, 317, 318, 319, 320, 321] (by decide +kernel) (by decide +kernel)
set_option maxRecDepth 20000 in
theorem gX5_textOf_X5_writeToken : GoodIn wsX5_textOf (wsV RX5 213 RX5 yX5_writeToken wsX5_writeToken) := goodIn_app (goodIn_of _ (by decide +kernel)) ggX5_textOf_X5_writeToken
set_option maxRecDepth 20000 in
theorem ggX5_textOf_J4_toString_0e30d : GoodIn wsX5_textOf wsJ4_toString_0e30d := goodIn_r _ [254, 255, 256, 119, 257, 258, 259, 260, 261, 262, 263, 264, 265, 187, 181, 186, 266, 267, 268, 269, 270, 14, 271, 17, 272, 273, 274, 275, 276, 8, 277, 278, 12, 279, 280, 16, 281, 62, 63, 64, 65, 66, 24, 282, 283, 45, 284, 47, 48, 49, 50, 51, 52, 285, 286, 287, 53, 54, 55, 37, 56, 57, 58, 59, 60, 288, 289, 290, 291, 292, 79, 293, 294, 295, 296, 111, 112, 113, 114, 115, 116, 117, 118, 120, 121, 122, 123, 124, 125, 297, 298, 299, 129, 130, 131, 101, 102, 103, 104, 300, 301, 302, 303, 318, 319, 320, 321, 314, 315, 316, 317] (by decide +kernel) (by decide +kernel)
set_option maxRecDepth 20000 in
theorem gX5_textOf_J4_toString_0e30d : GoodIn wsX5_textOf (wsV RX5 217 RJ4 yJ4_toString_0e30d wsJ4_toString_0e30d) := goodIn_app (goodIn_of _ (by decide +kernel)) ggX5_textOf_J4_toString_0e30d
theorem dX5_textOf_0 : decode cX5_textOf 0 = .ok (.aload_n 0, 1) := by decide +kernel
theorem dX5_textOf_1 : decode cX5_textOf 1 = .ok (.getfield 37, 3) := by decide +kernel
theorem dX5_textOf_4 : decode cX5_textOf 4 = .ok (.iconst 0, 1) := by decide +kernel
theorem dX5_textOf_5 : decode cX5_textOf 5 = .ok (.invokevirtual 201, 3) := by decide +kernel
theorem dX5_textOf_8 : decode cX5_textOf 8 = .ok (.iconst 0, 1) := by decide +kernel
theorem dX5_textOf_9 : decode cX5_textOf 9 = .ok (.istore_n 2, 1) := by decide +kernel
theorem dX5_textOf_10 : decode cX5_textOf 10 = .ok (.iload_n 2, 1) := by decide +kernel
theorem dX5_textOf_11 : decode cX5_textOf 11 = .ok (.aload_n 1, 1) := by decide +kernel
theorem dX5_textOf_12 : decode cX5_textOf 12 = .ok (.getfield 66, 3) := by decide +kernel
theorem dX5_textOf_15 : decode cX5_textOf 15 = .ok (.if_icmp .ge 39, 3) := by decide +kernel
theorem dX5_textOf_18 : decode cX5_textOf 18 = .ok (.iload_n 2, 1) := by decide +kernel
theorem dX5_textOf_19 : decode cX5_textOf 19 = .ok (.ifCond .le 13, 3) := by decide +kernel
theorem dX5_textOf_22 : decode cX5_textOf 22 = .ok (.aload_n 0, 1) := by decide +kernel
theorem dX5_textOf_23 : decode cX5_textOf 23 = .ok (.getfield 37, 3) := by decide +kernel
theorem dX5_textOf_26 : decode cX5_textOf 26 = .ok (.bipush 32, 2) := by decide +kernel
theorem dX5_textOf_28 : decode cX5_textOf 28 = .ok (.invokevirtual 204, 3) := by decide +kernel
theorem dX5_textOf_31 : decode cX5_textOf 31 = .ok (.pop, 1) := by decide +kernel
theorem dX5_textOf_32 : decode cX5_textOf 32 = .ok (.aload_n 0, 1) := by decide +kernel
theorem dX5_textOf_33 : decode cX5_textOf 33 = .ok (.aload_n 1, 1) := by decide +kernel
theorem dX5_textOf_34 : decode cX5_textOf 34 = .ok (.getfield 207, 3) := by decide +kernel
theorem dX5_textOf_37 : decode cX5_textOf 37 = .ok (.iload_n 2, 1) := by decide +kernel
theorem dX5_textOf_38 : decode cX5_textOf 38 = .ok (.iaload, 1) := by decide +kernel
theorem dX5_textOf_39 : decode cX5_textOf 39 = .ok (.aload_n 1, 1) := by decide +kernel
theorem dX5_textOf_40 : decode cX5_textOf 40 = .ok (.getfield 210, 3) := by decide +kernel
theorem dX5_textOf_43 : decode cX5_textOf 43 = .ok (.iload_n 2, 1) := by decide +kernel
theorem dX5_textOf_44 : decode cX5_textOf 44 = .ok (.iaload, 1) := by decide +kernel
theorem dX5_textOf_45 : decode cX5_textOf 45 = .ok (.invokevirtual 213, 3) := by decide +kernel
theorem dX5_textOf_48 : decode cX5_textOf 48 = .ok (.iinc 2 1, 3) := by decide +kernel
theorem dX5_textOf_51 : decode cX5_textOf 51 = .ok (.goto (-41), 3) := by decide +kernel
theorem dX5_textOf_54 : decode cX5_textOf 54 = .ok (.aload_n 0, 1) := by decide +kernel
theorem dX5_textOf_55 : decode cX5_textOf 55 = .ok (.getfield 37, 3) := by decide +kernel
theorem dX5_textOf_58 : decode cX5_textOf 58 = .ok (.bipush 46, 2) := by decide +kernel
theorem dX5_textOf_60 : decode cX5_textOf 60 = .ok (.invokevirtual 204, 3) := by decide +kernel
theorem dX5_textOf_63 : decode cX5_textOf 63 = .ok (.pop, 1) := by decide +kernel
theorem dX5_textOf_64 : decode cX5_textOf 64 = .ok (.aload_n 0, 1) := by decide +kernel
theorem dX5_textOf_65 : decode cX5_textOf 65 = .ok (.getfield 37, 3) := by decide +kernel
theorem dX5_textOf_68 : decode cX5_textOf 68 = .ok (.invokevirtual 217, 3) := by decide +kernel
theorem dX5_textOf_71 : decode cX5_textOf 71 = .ok (.areturn, 1) := by decide +kernel
set_option maxRecDepth 20000 in
theorem ggX5_writeToken_X5_spelling : GoodIn wsX5_writeToken wsX5_spelling := goodIn_r _ [5] (by decide +kernel) (by decide +kernel)
set_option maxRecDepth 20000 in
theorem gX5_writeToken_X5_spelling : GoodIn wsX5_writeToken (va_wsS RX5 221 yX5_spelling wsX5_spelling) := goodIn_app (goodIn_of _ (by decide +kernel)) ggX5_writeToken_X5_spelling
set_option maxRecDepth 20000 in
theorem ggX5_writeToken_J4_append_15ec4 : GoodIn wsX5_writeToken wsJ4_append_15ec4 := goodIn_r _ [10, 11, 12, 13, 14, 15, 16, 17, 18, 19, 20, 21, 22, 23, 24, 25, 26, 27, 28, 29, 30, 31, 32, 33, 34, 35, 36, 37, 38, 39, 40, 41, 42, 43, 44, 45, 46, 47, 48, 49, 50, 51, 52, 53, 54, 55, 56, 57, 58, 59, 60, 61, 62, 63, 64, 65, 66, 67, 68, 69, 70, 71, 72, 73, 74, 75, 76, 77, 78, 79, 80, 81, 82, 83, 84, 85, 86, 87, 88, 89, 90, 91, 92, 93, 94, 95, 96, 97, 98, 99, 100, 101, 102, 103, 104, 105, 106, 107, 108, 109, 110, 111, 112, 113, 114, 115, 116, 117, 118, 119, 120, 121, 122, 123, 124, 125, 126, 127, 128, 129, 130, 131, 132, 133, 134, 135, 136, 137, 138, 139, 140, 141, 142, 143, 144, 145, 146, 147, 148, 149, 150, 151, 152, 229, 230, 231, 232, 233, 234, 235, 236] (by decide +kernel) (by decide +kernel)
set_option maxRecDepth 20000 in
theorem gX5_writeToken_J4_append_15ec4 : GoodIn wsX5_writeToken (wsV RX5 225 RJ4 yJ4_append_15ec4 wsJ4_append_15ec4) := goodIn_app (goodIn_of _ (by decide +kernel)) ggX5_writeToken_J4_append_15ec4
set_option maxRecDepth 20000 in
theorem ggX5_writeToken_J4_append_bf812 : GoodIn wsX5_writeToken wsJ4_append_bf812 := goodIn_r _ [156, 157, 158, 13, 159, 15, 160, 17, 23, 161, 162, 163, 164, 24, 25, 26, 27, 28, 29, 30, 31, 32, 33, 34, 35, 36, 37, 38, 39, 40, 41, 42, 43, 44, 45, 46, 47, 48, 49, 50, 51, 52, 53, 54, 55, 56, 57, 58, 59, 60, 61, 62, 63, 64, 65, 66, 67, 68, 69, 70, 71, 165, 166, 167, 168, 169, 170, 171, 74, 172, 76, 77, 78, 79, 80, 81, 82, 83, 84, 85, 86, 87, 88, 89, 90, 91, 173, 174, 175, 176, 177, 92, 93, 94, 95, 96, 229, 230, 231, 232] (by decide +kernel) (by decide +kernel)
set_option maxRecDepth 20000 in
theorem gX5_writeToken_J4_append_bf812 : GoodIn wsX5_writeToken (wsV RX5 228 RJ4 yJ4_append_bf812 wsJ4_append_bf812) := goodIn_app (goodIn_of _ (by decide +kernel)) ggX5_writeToken_J4_append_bf812
set_option maxRecDepth 20000 in
theorem ggX5_writeToken_X5_dateCode : GoodIn wsX5_writeToken wsX5_dateCode := goodIn_r _ [180, 181, 182, 4, 183, 184, 185, 186, 187, 188, 189, 190] (by decide +kernel) (by decide +kernel)
set_option maxRecDepth 20000 in
theorem gX5_writeToken_X5_dateCode : GoodIn wsX5_writeToken (va_wsS RX5 231 yX5_dateCode wsX5_dateCode) := goodIn_app (goodIn_of _ (by decide +kernel)) ggX5_writeToken_X5_dateCode
set_option maxRecDepth 20000 in
theorem ggX5_writeToken_X5_writeDate : GoodIn wsX5_writeToken wsX5_writeDate := goodIn_r _ [194, 1, 153, 154, 155, 9, 156, 157, 158, 13, 159, 15, 160, 17, 23, 161, 162, 163, 164, 24, 25, 26, 27, 28, 29, 30, 31, 32, 33, 34, 35, 36, 37, 38, 39, 40, 41, 42, 43, 44, 45, 46, 47, 48, 49, 50, 51, 52, 53, 54, 55, 56, 57, 58, 59, 60, 61, 62, 63, 64, 65, 66, 67, 68, 69, 70, 71, 165, 166, 167, 168, 169, 170, 171, 74, 172, 76, 77, 78, 79, 80, 81, 82, 83, 84, 85, 86, 87, 88, 89, 90, 91, 173, 174, 175, 176, 177, 92, 93, 94, 95, 96, 195, 196, 197, 198, 199, 200, 201, 202, 203, 204, 133, 205, 119, 120, 121, 122, 123, 124, 125, 126, 127, 128, 129, 130, 131, 132, 134, 135, 136, 137, 138, 139, 140, 141, 142, 143, 144, 145, 146, 206, 207, 208, 209, 210, 211, 212, 213, 214, 215, 216, 217, 218, 219, 220, 4, 221, 222, 223, 224, 225, 226, 227, 228, 229, 230, 231, 232] (by decide +kernel) (by decide +kernel)
set_option maxRecDepth 20000 in
theorem gX5_writeToken_X5_writeDate : GoodIn wsX5_writeToken (wsV RX5 234 RX5 yX5_writeDate wsX5_writeDate) := goodIn_app (goodIn_of _ (by decide +kernel)) ggX5_writeToken_X5_writeDate
theorem dX5_writeToken_0 : decode cX5_writeToken 0 = .ok (.iload_n 1, 1) := by decide +kernel
theorem dX5_writeToken_1 : decode cX5_writeToken 1 = .ok (.lookupswitch 54 #[(0, 27), (1, 42)], 27) := by decide +kernel
theorem dX5_writeToken_28 : decode cX5_writeToken 28 = .ok (.aload_n 0, 1) := by decide +kernel
theorem dX5_writeToken_29 : decode cX5_writeToken 29 = .ok (.getfield 37, 3) := by decide +kernel
theorem dX5_writeToken_32 : decode cX5_writeToken 32 = .ok (.iload_n 2, 1) := by decide +kernel
theorem dX5_writeToken_33 : decode cX5_writeToken 33 = .ok (.invokestatic 221, 3) := by decide +kernel
theorem dX5_writeToken_36 : decode cX5_writeToken 36 = .ok (.invokevirtual 225, 3) := by decide +kernel
theorem dX5_writeToken_39 : decode cX5_writeToken 39 = .ok (.pop, 1) := by decide +kernel
theorem dX5_writeToken_40 : decode cX5_writeToken 40 = .ok (.goto 23, 3) := by decide +kernel
theorem dX5_writeToken_43 : decode cX5_writeToken 43 = .ok (.aload_n 0, 1) := by decide +kernel
theorem dX5_writeToken_44 : decode cX5_writeToken 44 = .ok (.getfield 37, 3) := by decide +kernel
theorem dX5_writeToken_47 : decode cX5_writeToken 47 = .ok (.iload_n 2, 1) := by decide +kernel
theorem dX5_writeToken_48 : decode cX5_writeToken 48 = .ok (.invokevirtual 228, 3) := by decide +kernel
theorem dX5_writeToken_51 : decode cX5_writeToken 51 = .ok (.pop, 1) := by decide +kernel
theorem dX5_writeToken_52 : decode cX5_writeToken 52 = .ok (.goto 11, 3) := by decide +kernel
theorem dX5_writeToken_55 : decode cX5_writeToken 55 = .ok (.aload_n 0, 1) := by decide +kernel
theorem dX5_writeToken_56 : decode cX5_writeToken 56 = .ok (.iload_n 2, 1) := by decide +kernel
theorem dX5_writeToken_57 : decode cX5_writeToken 57 = .ok (.invokestatic 231, 3) := by decide +kernel
theorem dX5_writeToken_60 : decode cX5_writeToken 60 = .ok (.invokevirtual 234, 3) := by decide +kernel
theorem dX5_writeToken_63 : decode cX5_writeToken 63 = .ok (.return_, 1) := by decide +kernel
set_option maxRecDepth 20000 in
theorem ggX5_writeDate_J4_append_bf812 : GoodIn wsX5_writeDate wsJ4_append_bf812 := goodIn_r _ [6, 7, 8, 9, 10, 11, 12, 13, 14, 15, 16, 17, 18, 19, 20, 21, 22, 23, 24, 25, 26, 27, 28, 29, 30, 31, 32, 33, 34, 35, 36, 37, 38, 39, 40, 41, 42, 43, 44, 45, 46, 47, 48, 49, 50, 51, 52, 53, 54, 55, 56, 57, 58, 59, 60, 61, 62, 63, 64, 65, 66, 67, 68, 69, 70, 71, 72, 73, 74, 75, 76, 77, 78, 79, 80, 81, 82, 83, 84, 85, 86, 87, 88, 89, 90, 91, 92, 93, 94, 95, 96, 97, 98, 99, 100, 101, 165, 166, 167, 168] (by decide +kernel) (by decide +kernel)
set_option maxRecDepth 20000 in
theorem gX5_writeDate_J4_append_bf812 : GoodIn wsX5_writeDate (wsV RX5 228 RJ4 yJ4_append_bf812 wsJ4_append_bf812) := goodIn_app (goodIn_of _ (by decide +kernel)) ggX5_writeDate_J4_append_bf812
set_option maxRecDepth 20000 in
theorem ggX5_writeDate_J4_append_cf468 : GoodIn wsX5_writeDate wsJ4_append_cf468 := goodIn_r _ [105, 106, 107, 9, 108, 11, 109, 13, 14, 19, 20, 21, 22, 23, 24, 25, 26, 27, 28, 29, 30, 31, 32, 33, 34, 35, 36, 37, 38, 39, 40, 41, 42, 43, 44, 45, 46, 47, 48, 49, 50, 51, 52, 53, 54, 55, 56, 57, 58, 59, 60, 61, 62, 63, 64, 65, 66, 110, 111, 112, 113, 114, 115, 116, 117, 118, 119, 120, 74, 121, 122, 123, 124, 125, 126, 127, 128, 129, 130, 131, 132, 133, 134, 80, 81, 82, 135, 136, 85, 137, 87, 138, 139, 90, 140, 97, 98, 99, 76, 100, 101, 141, 142, 143, 144, 145, 146, 147, 148, 149, 150, 151, 152, 165, 166, 167, 168] (by decide +kernel) (by decide +kernel)
set_option maxRecDepth 20000 in
theorem gX5_writeDate_J4_append_cf468 : GoodIn wsX5_writeDate (wsV RX5 204 RJ4 yJ4_append_cf468 wsJ4_append_cf468) := goodIn_app (goodIn_of _ (by decide +kernel)) ggX5_writeDate_J4_append_cf468
set_option maxRecDepth 20000 in
theorem ggX5_writeDate_X5_writeTwoDigits : GoodIn wsX5_writeDate wsX5_writeTwoDigits := goodIn_r _ [157, 1, 102, 103, 104, 5, 105, 106, 107, 9, 108, 11, 109, 13, 14, 19, 20, 21, 22, 23, 24, 25, 26, 27, 28, 29, 30, 31, 32, 33, 34, 35, 36, 37, 38, 39, 40, 41, 42, 43, 44, 45, 46, 47, 48, 49, 50, 51, 52, 53, 54, 55, 56, 57, 58, 59, 60, 61, 62, 63, 64, 65, 66, 110, 111, 112, 113, 114, 115, 116, 117, 118, 119, 120, 74, 121, 122, 123, 124, 125, 126, 127, 128, 129, 130, 131, 132, 133, 134, 80, 81, 82, 135, 136, 85, 137, 87, 138, 139, 90, 140, 97, 98, 99, 76, 100, 101, 141, 142, 143, 144, 145, 146, 147, 148, 149, 150, 151, 152, 2, 3, 4, 6, 7, 8, 10, 12, 15, 16, 17, 18, 67, 68, 69, 70, 71, 72, 73, 75, 77, 78, 79, 83, 84, 86, 88, 89, 91, 92, 93, 94, 95, 96, 158, 159, 160, 161, 162, 163, 164, 165, 166, 167, 168] (by decide +kernel) (by decide +kernel)
set_option maxRecDepth 20000 in
theorem gX5_writeDate_X5_writeTwoDigits : GoodIn wsX5_writeDate (wsV RX5 237 RX5 yX5_writeTwoDigits wsX5_writeTwoDigits) := goodIn_app (goodIn_of _ (by decide +kernel)) ggX5_writeDate_X5_writeTwoDigits
theorem dX5_writeDate_0 : decode cX5_writeDate 0 = .ok (.aload_n 0, 1) := by decide +kernel
theorem dX5_writeDate_1 : decode cX5_writeDate 1 = .ok (.getfield 37, 3) := by decide +kernel
theorem dX5_writeDate_4 : decode cX5_writeDate 4 = .ok (.iload_n 1, 1) := by decide +kernel
theorem dX5_writeDate_5 : decode cX5_writeDate 5 = .ok (.sipush 10000, 3) := by decide +kernel
theorem dX5_writeDate_8 : decode cX5_writeDate 8 = .ok (.idiv, 1) := by decide +kernel
theorem dX5_writeDate_9 : decode cX5_writeDate 9 = .ok (.invokevirtual 228, 3) := by decide +kernel
theorem dX5_writeDate_12 : decode cX5_writeDate 12 = .ok (.bipush 45, 2) := by decide +kernel
theorem dX5_writeDate_14 : decode cX5_writeDate 14 = .ok (.invokevirtual 204, 3) := by decide +kernel
theorem dX5_writeDate_17 : decode cX5_writeDate 17 = .ok (.pop, 1) := by decide +kernel
theorem dX5_writeDate_18 : decode cX5_writeDate 18 = .ok (.aload_n 0, 1) := by decide +kernel
theorem dX5_writeDate_19 : decode cX5_writeDate 19 = .ok (.iload_n 1, 1) := by decide +kernel
theorem dX5_writeDate_20 : decode cX5_writeDate 20 = .ok (.bipush 100, 2) := by decide +kernel
theorem dX5_writeDate_22 : decode cX5_writeDate 22 = .ok (.idiv, 1) := by decide +kernel
theorem dX5_writeDate_23 : decode cX5_writeDate 23 = .ok (.bipush 100, 2) := by decide +kernel
theorem dX5_writeDate_25 : decode cX5_writeDate 25 = .ok (.irem, 1) := by decide +kernel
theorem dX5_writeDate_26 : decode cX5_writeDate 26 = .ok (.invokevirtual 237, 3) := by decide +kernel
theorem dX5_writeDate_29 : decode cX5_writeDate 29 = .ok (.aload_n 0, 1) := by decide +kernel
theorem dX5_writeDate_30 : decode cX5_writeDate 30 = .ok (.getfield 37, 3) := by decide +kernel
theorem dX5_writeDate_33 : decode cX5_writeDate 33 = .ok (.bipush 45, 2) := by decide +kernel
theorem dX5_writeDate_35 : decode cX5_writeDate 35 = .ok (.invokevirtual 204, 3) := by decide +kernel
theorem dX5_writeDate_38 : decode cX5_writeDate 38 = .ok (.pop, 1) := by decide +kernel
theorem dX5_writeDate_39 : decode cX5_writeDate 39 = .ok (.aload_n 0, 1) := by decide +kernel
theorem dX5_writeDate_40 : decode cX5_writeDate 40 = .ok (.iload_n 1, 1) := by decide +kernel
theorem dX5_writeDate_41 : decode cX5_writeDate 41 = .ok (.bipush 100, 2) := by decide +kernel
theorem dX5_writeDate_43 : decode cX5_writeDate 43 = .ok (.irem, 1) := by decide +kernel
theorem dX5_writeDate_44 : decode cX5_writeDate 44 = .ok (.invokevirtual 237, 3) := by decide +kernel
theorem dX5_writeDate_47 : decode cX5_writeDate 47 = .ok (.return_, 1) := by decide +kernel
set_option maxRecDepth 20000 in
theorem ggX5_writeTwoDigits_J4_append_cf468 : GoodIn wsX5_writeTwoDigits wsJ4_append_cf468 := goodIn_r _ [6, 7, 8, 9, 10, 11, 12, 13, 14, 15, 16, 17, 18, 19, 20, 21, 22, 23, 24, 25, 26, 27, 28, 29, 30, 31, 32, 33, 34, 35, 36, 37, 38, 39, 40, 41, 42, 43, 44, 45, 46, 47, 48, 49, 50, 51, 52, 53, 54, 55, 56, 57, 58, 59, 60, 61, 62, 63, 64, 65, 66, 67, 68, 69, 70, 71, 72, 73, 74, 75, 76, 77, 78, 79, 80, 81, 82, 83, 84, 85, 86, 87, 88, 89, 90, 91, 92, 93, 94, 95, 96, 97, 98, 99, 100, 101, 102, 103, 104, 105, 106, 107, 108, 109, 110, 111, 112, 113, 114, 115, 116, 117, 118, 160, 161, 162, 163] (by decide +kernel) (by decide +kernel)
set_option maxRecDepth 20000 in
theorem gX5_writeTwoDigits_J4_append_cf468 : GoodIn wsX5_writeTwoDigits (wsV RX5 204 RJ4 yJ4_append_cf468 wsJ4_append_cf468) := goodIn_app (goodIn_of _ (by decide +kernel)) ggX5_writeTwoDigits_J4_append_cf468
set_option maxRecDepth 20000 in
theorem ggX5_writeTwoDigits_J4_append_bf812 : GoodIn wsX5_writeTwoDigits wsJ4_append_bf812 := goodIn_r _ [122, 123, 124, 9, 125, 11, 126, 13, 14, 127, 128, 129, 130, 15, 16, 17, 18, 19, 20, 21, 22, 23, 24, 25, 26, 27, 28, 29, 30, 31, 32, 33, 34, 35, 36, 37, 38, 39, 40, 41, 42, 43, 44, 45, 46, 47, 48, 49, 50, 51, 52, 53, 54, 55, 56, 57, 58, 59, 60, 61, 62, 131, 132, 133, 134, 135, 136, 137, 74, 138, 104, 139, 140, 141, 89, 90, 91, 142, 143, 94, 144, 96, 145, 146, 99, 147, 148, 149, 150, 151, 152, 101, 102, 103, 105, 106, 160, 161, 162, 163] (by decide +kernel) (by decide +kernel)
set_option maxRecDepth 20000 in
theorem gX5_writeTwoDigits_J4_append_bf812 : GoodIn wsX5_writeTwoDigits (wsV RX5 228 RJ4 yJ4_append_bf812 wsJ4_append_bf812) := goodIn_app (goodIn_of _ (by decide +kernel)) ggX5_writeTwoDigits_J4_append_bf812
theorem dX5_writeTwoDigits_0 : decode cX5_writeTwoDigits 0 = .ok (.iload_n 1, 1) := by decide +kernel
theorem dX5_writeTwoDigits_1 : decode cX5_writeTwoDigits 1 = .ok (.bipush 10, 2) := by decide +kernel
theorem dX5_writeTwoDigits_3 : decode cX5_writeTwoDigits 3 = .ok (.if_icmp .ge 13, 3) := by decide +kernel
theorem dX5_writeTwoDigits_6 : decode cX5_writeTwoDigits 6 = .ok (.aload_n 0, 1) := by decide +kernel
theorem dX5_writeTwoDigits_7 : decode cX5_writeTwoDigits 7 = .ok (.getfield 37, 3) := by decide +kernel
theorem dX5_writeTwoDigits_10 : decode cX5_writeTwoDigits 10 = .ok (.bipush 48, 2) := by decide +kernel
theorem dX5_writeTwoDigits_12 : decode cX5_writeTwoDigits 12 = .ok (.invokevirtual 204, 3) := by decide +kernel
theorem dX5_writeTwoDigits_15 : decode cX5_writeTwoDigits 15 = .ok (.pop, 1) := by decide +kernel
theorem dX5_writeTwoDigits_16 : decode cX5_writeTwoDigits 16 = .ok (.aload_n 0, 1) := by decide +kernel
theorem dX5_writeTwoDigits_17 : decode cX5_writeTwoDigits 17 = .ok (.getfield 37, 3) := by decide +kernel
theorem dX5_writeTwoDigits_20 : decode cX5_writeTwoDigits 20 = .ok (.iload_n 1, 1) := by decide +kernel
theorem dX5_writeTwoDigits_21 : decode cX5_writeTwoDigits 21 = .ok (.invokevirtual 228, 3) := by decide +kernel
theorem dX5_writeTwoDigits_24 : decode cX5_writeTwoDigits 24 = .ok (.pop, 1) := by decide +kernel
theorem dX5_writeTwoDigits_25 : decode cX5_writeTwoDigits 25 = .ok (.return_, 1) := by decide +kernel
theorem dX5_spelling_0 : decode cX5_spelling 0 = .ok (.iload_n 0, 1) := by decide +kernel
theorem dX5_spelling_1 : decode cX5_spelling 1 = .ok (.tableswitch 215 0 25 #[119, 122, 125, 128, 131, 134, 137, 140, 143, 147, 151, 155, 159, 163, 167, 171, 175, 179, 183, 187, 191, 195, 199, 203, 207, 211], 119) := by decide +kernel
theorem dX5_spelling_120 : decode cX5_spelling 120 = .ok (.ldc 240, 2) := by decide +kernel
theorem dX5_spelling_122 : decode cX5_spelling 122 = .ok (.areturn, 1) := by decide +kernel
theorem dX5_spelling_123 : decode cX5_spelling 123 = .ok (.ldc 242, 2) := by decide +kernel
theorem dX5_spelling_125 : decode cX5_spelling 125 = .ok (.areturn, 1) := by decide +kernel
theorem dX5_spelling_126 : decode cX5_spelling 126 = .ok (.ldc 244, 2) := by decide +kernel
theorem dX5_spelling_128 : decode cX5_spelling 128 = .ok (.areturn, 1) := by decide +kernel
theorem dX5_spelling_129 : decode cX5_spelling 129 = .ok (.ldc 246, 2) := by decide +kernel
theorem dX5_spelling_131 : decode cX5_spelling 131 = .ok (.areturn, 1) := by decide +kernel
theorem dX5_spelling_132 : decode cX5_spelling 132 = .ok (.ldc 248, 2) := by decide +kernel
theorem dX5_spelling_134 : decode cX5_spelling 134 = .ok (.areturn, 1) := by decide +kernel
theorem dX5_spelling_135 : decode cX5_spelling 135 = .ok (.ldc 250, 2) := by decide +kernel
theorem dX5_spelling_137 : decode cX5_spelling 137 = .ok (.areturn, 1) := by decide +kernel
theorem dX5_spelling_138 : decode cX5_spelling 138 = .ok (.ldc 252, 2) := by decide +kernel
theorem dX5_spelling_140 : decode cX5_spelling 140 = .ok (.areturn, 1) := by decide +kernel
theorem dX5_spelling_141 : decode cX5_spelling 141 = .ok (.ldc 254, 2) := by decide +kernel
theorem dX5_spelling_143 : decode cX5_spelling 143 = .ok (.areturn, 1) := by decide +kernel
theorem dX5_spelling_144 : decode cX5_spelling 144 = .ok (.ldc_w 256, 3) := by decide +kernel
theorem dX5_spelling_147 : decode cX5_spelling 147 = .ok (.areturn, 1) := by decide +kernel
theorem dX5_spelling_148 : decode cX5_spelling 148 = .ok (.ldc_w 258, 3) := by decide +kernel
theorem dX5_spelling_151 : decode cX5_spelling 151 = .ok (.areturn, 1) := by decide +kernel
theorem dX5_spelling_152 : decode cX5_spelling 152 = .ok (.ldc_w 260, 3) := by decide +kernel
theorem dX5_spelling_155 : decode cX5_spelling 155 = .ok (.areturn, 1) := by decide +kernel
theorem dX5_spelling_156 : decode cX5_spelling 156 = .ok (.ldc_w 262, 3) := by decide +kernel
theorem dX5_spelling_159 : decode cX5_spelling 159 = .ok (.areturn, 1) := by decide +kernel
theorem dX5_spelling_160 : decode cX5_spelling 160 = .ok (.ldc_w 264, 3) := by decide +kernel
theorem dX5_spelling_163 : decode cX5_spelling 163 = .ok (.areturn, 1) := by decide +kernel
theorem dX5_spelling_164 : decode cX5_spelling 164 = .ok (.ldc_w 266, 3) := by decide +kernel
theorem dX5_spelling_167 : decode cX5_spelling 167 = .ok (.areturn, 1) := by decide +kernel
theorem dX5_spelling_168 : decode cX5_spelling 168 = .ok (.ldc_w 267, 3) := by decide +kernel
theorem dX5_spelling_171 : decode cX5_spelling 171 = .ok (.areturn, 1) := by decide +kernel
theorem dX5_spelling_172 : decode cX5_spelling 172 = .ok (.ldc_w 269, 3) := by decide +kernel
theorem dX5_spelling_175 : decode cX5_spelling 175 = .ok (.areturn, 1) := by decide +kernel
theorem dX5_spelling_176 : decode cX5_spelling 176 = .ok (.ldc_w 271, 3) := by decide +kernel
theorem dX5_spelling_179 : decode cX5_spelling 179 = .ok (.areturn, 1) := by decide +kernel
theorem dX5_spelling_180 : decode cX5_spelling 180 = .ok (.ldc_w 273, 3) := by decide +kernel
theorem dX5_spelling_183 : decode cX5_spelling 183 = .ok (.areturn, 1) := by decide +kernel
theorem dX5_spelling_184 : decode cX5_spelling 184 = .ok (.ldc_w 275, 3) := by decide +kernel
theorem dX5_spelling_187 : decode cX5_spelling 187 = .ok (.areturn, 1) := by decide +kernel
theorem dX5_spelling_188 : decode cX5_spelling 188 = .ok (.ldc_w 277, 3) := by decide +kernel
theorem dX5_spelling_191 : decode cX5_spelling 191 = .ok (.areturn, 1) := by decide +kernel
theorem dX5_spelling_192 : decode cX5_spelling 192 = .ok (.ldc_w 279, 3) := by decide +kernel
theorem dX5_spelling_195 : decode cX5_spelling 195 = .ok (.areturn, 1) := by decide +kernel
theorem dX5_spelling_196 : decode cX5_spelling 196 = .ok (.ldc_w 281, 3) := by decide +kernel
theorem dX5_spelling_199 : decode cX5_spelling 199 = .ok (.areturn, 1) := by decide +kernel
theorem dX5_spelling_200 : decode cX5_spelling 200 = .ok (.ldc_w 283, 3) := by decide +kernel
theorem dX5_spelling_203 : decode cX5_spelling 203 = .ok (.areturn, 1) := by decide +kernel
theorem dX5_spelling_204 : decode cX5_spelling 204 = .ok (.ldc_w 285, 3) := by decide +kernel
theorem dX5_spelling_207 : decode cX5_spelling 207 = .ok (.areturn, 1) := by decide +kernel
theorem dX5_spelling_208 : decode cX5_spelling 208 = .ok (.ldc_w 287, 3) := by decide +kernel
theorem dX5_spelling_211 : decode cX5_spelling 211 = .ok (.areturn, 1) := by decide +kernel
theorem dX5_spelling_212 : decode cX5_spelling 212 = .ok (.ldc_w 289, 3) := by decide +kernel
theorem dX5_spelling_215 : decode cX5_spelling 215 = .ok (.areturn, 1) := by decide +kernel
theorem dX5_spelling_216 : decode cX5_spelling 216 = .ok (.ldc_w 291, 3) := by decide +kernel
theorem dX5_spelling_219 : decode cX5_spelling 219 = .ok (.areturn, 1) := by decide +kernel
set_option maxRecDepth 20000 in
theorem ggX5_isDate_X5_daysOfMonth : GoodIn wsX5_isDate wsX5_daysOfMonth := goodIn_r _ [4, 5, 6, 7, 3, 8] (by decide +kernel) (by decide +kernel)
set_option maxRecDepth 20000 in
theorem gX5_isDate_X5_daysOfMonth : GoodIn wsX5_isDate (va_wsS RX5 294 yX5_daysOfMonth wsX5_daysOfMonth) := goodIn_app (goodIn_of _ (by decide +kernel)) ggX5_isDate_X5_daysOfMonth
theorem dX5_isDate_0 : decode cX5_isDate 0 = .ok (.iload_n 0, 1) := by decide +kernel
theorem dX5_isDate_1 : decode cX5_isDate 1 = .ok (.sipush 1900, 3) := by decide +kernel
theorem dX5_isDate_4 : decode cX5_isDate 4 = .ok (.if_icmp .lt 39, 3) := by decide +kernel
theorem dX5_isDate_7 : decode cX5_isDate 7 = .ok (.iload_n 0, 1) := by decide +kernel
theorem dX5_isDate_8 : decode cX5_isDate 8 = .ok (.sipush 2099, 3) := by decide +kernel
theorem dX5_isDate_11 : decode cX5_isDate 11 = .ok (.if_icmp .gt 32, 3) := by decide +kernel
theorem dX5_isDate_14 : decode cX5_isDate 14 = .ok (.iload_n 1, 1) := by decide +kernel
theorem dX5_isDate_15 : decode cX5_isDate 15 = .ok (.iconst 1, 1) := by decide +kernel
theorem dX5_isDate_16 : decode cX5_isDate 16 = .ok (.if_icmp .lt 27, 3) := by decide +kernel
theorem dX5_isDate_19 : decode cX5_isDate 19 = .ok (.iload_n 1, 1) := by decide +kernel
theorem dX5_isDate_20 : decode cX5_isDate 20 = .ok (.bipush 12, 2) := by decide +kernel
theorem dX5_isDate_22 : decode cX5_isDate 22 = .ok (.if_icmp .gt 21, 3) := by decide +kernel
theorem dX5_isDate_25 : decode cX5_isDate 25 = .ok (.iload_n 2, 1) := by decide +kernel
theorem dX5_isDate_26 : decode cX5_isDate 26 = .ok (.iconst 1, 1) := by decide +kernel
theorem dX5_isDate_27 : decode cX5_isDate 27 = .ok (.if_icmp .lt 16, 3) := by decide +kernel
theorem dX5_isDate_30 : decode cX5_isDate 30 = .ok (.iload_n 2, 1) := by decide +kernel
theorem dX5_isDate_31 : decode cX5_isDate 31 = .ok (.iload_n 0, 1) := by decide +kernel
theorem dX5_isDate_32 : decode cX5_isDate 32 = .ok (.iload_n 1, 1) := by decide +kernel
theorem dX5_isDate_33 : decode cX5_isDate 33 = .ok (.invokestatic 294, 3) := by decide +kernel
theorem dX5_isDate_36 : decode cX5_isDate 36 = .ok (.if_icmp .gt 7, 3) := by decide +kernel
theorem dX5_isDate_39 : decode cX5_isDate 39 = .ok (.iconst 1, 1) := by decide +kernel
theorem dX5_isDate_40 : decode cX5_isDate 40 = .ok (.goto 4, 3) := by decide +kernel
theorem dX5_isDate_43 : decode cX5_isDate 43 = .ok (.iconst 0, 1) := by decide +kernel
theorem dX5_isDate_44 : decode cX5_isDate 44 = .ok (.ireturn, 1) := by decide +kernel
theorem dX5_isLeapYear_0 : decode cX5_isLeapYear 0 = .ok (.iload_n 0, 1) := by decide +kernel
theorem dX5_isLeapYear_1 : decode cX5_isLeapYear 1 = .ok (.iconst 4, 1) := by decide +kernel
theorem dX5_isLeapYear_2 : decode cX5_isLeapYear 2 = .ok (.irem, 1) := by decide +kernel
theorem dX5_isLeapYear_3 : decode cX5_isLeapYear 3 = .ok (.ifCond .ne 10, 3) := by decide +kernel
theorem dX5_isLeapYear_6 : decode cX5_isLeapYear 6 = .ok (.iload_n 0, 1) := by decide +kernel
theorem dX5_isLeapYear_7 : decode cX5_isLeapYear 7 = .ok (.bipush 100, 2) := by decide +kernel
theorem dX5_isLeapYear_9 : decode cX5_isLeapYear 9 = .ok (.irem, 1) := by decide +kernel
theorem dX5_isLeapYear_10 : decode cX5_isLeapYear 10 = .ok (.ifCond .ne 11, 3) := by decide +kernel
theorem dX5_isLeapYear_13 : decode cX5_isLeapYear 13 = .ok (.iload_n 0, 1) := by decide +kernel
theorem dX5_isLeapYear_14 : decode cX5_isLeapYear 14 = .ok (.sipush 400, 3) := by decide +kernel
theorem dX5_isLeapYear_17 : decode cX5_isLeapYear 17 = .ok (.irem, 1) := by decide +kernel
theorem dX5_isLeapYear_18 : decode cX5_isLeapYear 18 = .ok (.ifCond .ne 7, 3) := by decide +kernel
theorem dX5_isLeapYear_21 : decode cX5_isLeapYear 21 = .ok (.iconst 1, 1) := by decide +kernel
theorem dX5_isLeapYear_22 : decode cX5_isLeapYear 22 = .ok (.goto 4, 3) := by decide +kernel
theorem dX5_isLeapYear_25 : decode cX5_isLeapYear 25 = .ok (.iconst 0, 1) := by decide +kernel
theorem dX5_isLeapYear_26 : decode cX5_isLeapYear 26 = .ok (.ireturn, 1) := by decide +kernel
set_option maxRecDepth 20000 in
theorem ggX5_daysOfYear_X5_isLeapYear : GoodIn wsX5_daysOfYear wsX5_isLeapYear := goodIn_r _ [4] (by decide +kernel) (by decide +kernel)
set_option maxRecDepth 20000 in
theorem gX5_daysOfYear_X5_isLeapYear : GoodIn wsX5_daysOfYear (va_wsS RX5 297 yX5_isLeapYear wsX5_isLeapYear) := goodIn_app (goodIn_of _ (by decide +kernel)) ggX5_daysOfYear_X5_isLeapYear
theorem dX5_daysOfYear_0 : decode cX5_daysOfYear 0 = .ok (.iload_n 0, 1) := by decide +kernel
theorem dX5_daysOfYear_1 : decode cX5_daysOfYear 1 = .ok (.invokestatic 297, 3) := by decide +kernel
theorem dX5_daysOfYear_4 : decode cX5_daysOfYear 4 = .ok (.ifCond .eq 9, 3) := by decide +kernel
theorem dX5_daysOfYear_7 : decode cX5_daysOfYear 7 = .ok (.sipush 366, 3) := by decide +kernel
theorem dX5_daysOfYear_10 : decode cX5_daysOfYear 10 = .ok (.goto 6, 3) := by decide +kernel
theorem dX5_daysOfYear_13 : decode cX5_daysOfYear 13 = .ok (.sipush 365, 3) := by decide +kernel
theorem dX5_daysOfYear_16 : decode cX5_daysOfYear 16 = .ok (.ireturn, 1) := by decide +kernel
set_option maxRecDepth 20000 in
theorem ggX5_daysOfMonth_X5_isLeapYear : GoodIn wsX5_daysOfMonth wsX5_isLeapYear := goodIn_r _ [5] (by decide +kernel) (by decide +kernel)
set_option maxRecDepth 20000 in
theorem gX5_daysOfMonth_X5_isLeapYear : GoodIn wsX5_daysOfMonth (va_wsS RX5 297 yX5_isLeapYear wsX5_isLeapYear) := goodIn_app (goodIn_of _ (by decide +kernel)) ggX5_daysOfMonth_X5_isLeapYear
theorem dX5_daysOfMonth_0 : decode cX5_daysOfMonth 0 = .ok (.iload_n 1, 1) := by decide +kernel
theorem dX5_daysOfMonth_1 : decode cX5_daysOfMonth 1 = .ok (.iconst 1, 1) := by decide +kernel
theorem dX5_daysOfMonth_2 : decode cX5_daysOfMonth 2 = .ok (.if_icmp .lt 11, 3) := by decide +kernel
theorem dX5_daysOfMonth_5 : decode cX5_daysOfMonth 5 = .ok (.iload_n 1, 1) := by decide +kernel
theorem dX5_daysOfMonth_6 : decode cX5_daysOfMonth 6 = .ok (.getstatic 300, 3) := by decide +kernel
theorem dX5_daysOfMonth_9 : decode cX5_daysOfMonth 9 = .ok (.arraylength, 1) := by decide +kernel
theorem dX5_daysOfMonth_10 : decode cX5_daysOfMonth 10 = .ok (.if_icmp .le 5, 3) := by decide +kernel
theorem dX5_daysOfMonth_13 : decode cX5_daysOfMonth 13 = .ok (.iconst 0, 1) := by decide +kernel
theorem dX5_daysOfMonth_14 : decode cX5_daysOfMonth 14 = .ok (.ireturn, 1) := by decide +kernel
theorem dX5_daysOfMonth_15 : decode cX5_daysOfMonth 15 = .ok (.getstatic 300, 3) := by decide +kernel
theorem dX5_daysOfMonth_18 : decode cX5_daysOfMonth 18 = .ok (.iload_n 1, 1) := by decide +kernel
theorem dX5_daysOfMonth_19 : decode cX5_daysOfMonth 19 = .ok (.iconst 1, 1) := by decide +kernel
theorem dX5_daysOfMonth_20 : decode cX5_daysOfMonth 20 = .ok (.isub, 1) := by decide +kernel
theorem dX5_daysOfMonth_21 : decode cX5_daysOfMonth 21 = .ok (.iaload, 1) := by decide +kernel
theorem dX5_daysOfMonth_22 : decode cX5_daysOfMonth 22 = .ok (.istore_n 2, 1) := by decide +kernel
theorem dX5_daysOfMonth_23 : decode cX5_daysOfMonth 23 = .ok (.iload_n 1, 1) := by decide +kernel
theorem dX5_daysOfMonth_24 : decode cX5_daysOfMonth 24 = .ok (.iconst 2, 1) := by decide +kernel
theorem dX5_daysOfMonth_25 : decode cX5_daysOfMonth 25 = .ok (.if_icmp .ne 16, 3) := by decide +kernel
theorem dX5_daysOfMonth_28 : decode cX5_daysOfMonth 28 = .ok (.iload_n 0, 1) := by decide +kernel
theorem dX5_daysOfMonth_29 : decode cX5_daysOfMonth 29 = .ok (.invokestatic 297, 3) := by decide +kernel
theorem dX5_daysOfMonth_32 : decode cX5_daysOfMonth 32 = .ok (.ifCond .eq 9, 3) := by decide +kernel
theorem dX5_daysOfMonth_35 : decode cX5_daysOfMonth 35 = .ok (.iload_n 2, 1) := by decide +kernel
theorem dX5_daysOfMonth_36 : decode cX5_daysOfMonth 36 = .ok (.iconst 1, 1) := by decide +kernel
theorem dX5_daysOfMonth_37 : decode cX5_daysOfMonth 37 = .ok (.iadd, 1) := by decide +kernel
theorem dX5_daysOfMonth_38 : decode cX5_daysOfMonth 38 = .ok (.goto 4, 3) := by decide +kernel
theorem dX5_daysOfMonth_41 : decode cX5_daysOfMonth 41 = .ok (.iload_n 2, 1) := by decide +kernel
theorem dX5_daysOfMonth_42 : decode cX5_daysOfMonth 42 = .ok (.ireturn, 1) := by decide +kernel
set_option maxRecDepth 20000 in
theorem ggX5_daysBefore_X5_daysOfYear : GoodIn wsX5_daysBefore wsX5_daysOfYear := goodIn_r _ [4, 5, 6, 3, 7] (by decide +kernel) (by decide +kernel)
set_option maxRecDepth 20000 in
theorem gX5_daysBefore_X5_daysOfYear : GoodIn wsX5_daysBefore (va_wsS RX5 303 yX5_daysOfYear wsX5_daysOfYear) := goodIn_app (goodIn_of _ (by decide +kernel)) ggX5_daysBefore_X5_daysOfYear
set_option maxRecDepth 20000 in
theorem ggX5_daysBefore_X5_daysOfMonth : GoodIn wsX5_daysBefore wsX5_daysOfMonth := goodIn_r _ [10, 11, 5, 6, 3, 7] (by decide +kernel) (by decide +kernel)
set_option maxRecDepth 20000 in
theorem gX5_daysBefore_X5_daysOfMonth : GoodIn wsX5_daysBefore (va_wsS RX5 294 yX5_daysOfMonth wsX5_daysOfMonth) := goodIn_app (goodIn_of _ (by decide +kernel)) ggX5_daysBefore_X5_daysOfMonth
theorem dX5_daysBefore_0 : decode cX5_daysBefore 0 = .ok (.iconst 0, 1) := by decide +kernel
theorem dX5_daysBefore_1 : decode cX5_daysBefore 1 = .ok (.istore_n 2, 1) := by decide +kernel
theorem dX5_daysBefore_2 : decode cX5_daysBefore 2 = .ok (.sipush 1900, 3) := by decide +kernel
theorem dX5_daysBefore_5 : decode cX5_daysBefore 5 = .ok (.istore_n 3, 1) := by decide +kernel
theorem dX5_daysBefore_6 : decode cX5_daysBefore 6 = .ok (.iload_n 3, 1) := by decide +kernel
theorem dX5_daysBefore_7 : decode cX5_daysBefore 7 = .ok (.iload_n 0, 1) := by decide +kernel
theorem dX5_daysBefore_8 : decode cX5_daysBefore 8 = .ok (.if_icmp .ge 23, 3) := by decide +kernel
theorem dX5_daysBefore_11 : decode cX5_daysBefore 11 = .ok (.iload_n 3, 1) := by decide +kernel
theorem dX5_daysBefore_12 : decode cX5_daysBefore 12 = .ok (.sipush 2099, 3) := by decide +kernel
theorem dX5_daysBefore_15 : decode cX5_daysBefore 15 = .ok (.if_icmp .gt 16, 3) := by decide +kernel
theorem dX5_daysBefore_18 : decode cX5_daysBefore 18 = .ok (.iload_n 2, 1) := by decide +kernel
theorem dX5_daysBefore_19 : decode cX5_daysBefore 19 = .ok (.iload_n 3, 1) := by decide +kernel
theorem dX5_daysBefore_20 : decode cX5_daysBefore 20 = .ok (.invokestatic 303, 3) := by decide +kernel
theorem dX5_daysBefore_23 : decode cX5_daysBefore 23 = .ok (.iadd, 1) := by decide +kernel
theorem dX5_daysBefore_24 : decode cX5_daysBefore 24 = .ok (.istore_n 2, 1) := by decide +kernel
theorem dX5_daysBefore_25 : decode cX5_daysBefore 25 = .ok (.iinc 3 1, 3) := by decide +kernel
theorem dX5_daysBefore_28 : decode cX5_daysBefore 28 = .ok (.goto (-22), 3) := by decide +kernel
theorem dX5_daysBefore_31 : decode cX5_daysBefore 31 = .ok (.iconst 1, 1) := by decide +kernel
theorem dX5_daysBefore_32 : decode cX5_daysBefore 32 = .ok (.istore_n 3, 1) := by decide +kernel
theorem dX5_daysBefore_33 : decode cX5_daysBefore 33 = .ok (.iload_n 3, 1) := by decide +kernel
theorem dX5_daysBefore_34 : decode cX5_daysBefore 34 = .ok (.iload_n 1, 1) := by decide +kernel
theorem dX5_daysBefore_35 : decode cX5_daysBefore 35 = .ok (.if_icmp .ge 23, 3) := by decide +kernel
theorem dX5_daysBefore_38 : decode cX5_daysBefore 38 = .ok (.iload_n 3, 1) := by decide +kernel
theorem dX5_daysBefore_39 : decode cX5_daysBefore 39 = .ok (.bipush 12, 2) := by decide +kernel
theorem dX5_daysBefore_41 : decode cX5_daysBefore 41 = .ok (.if_icmp .gt 17, 3) := by decide +kernel
theorem dX5_daysBefore_44 : decode cX5_daysBefore 44 = .ok (.iload_n 2, 1) := by decide +kernel
theorem dX5_daysBefore_45 : decode cX5_daysBefore 45 = .ok (.iload_n 0, 1) := by decide +kernel
theorem dX5_daysBefore_46 : decode cX5_daysBefore 46 = .ok (.iload_n 3, 1) := by decide +kernel
theorem dX5_daysBefore_47 : decode cX5_daysBefore 47 = .ok (.invokestatic 294, 3) := by decide +kernel
theorem dX5_daysBefore_50 : decode cX5_daysBefore 50 = .ok (.iadd, 1) := by decide +kernel
theorem dX5_daysBefore_51 : decode cX5_daysBefore 51 = .ok (.istore_n 2, 1) := by decide +kernel
theorem dX5_daysBefore_52 : decode cX5_daysBefore 52 = .ok (.iinc 3 1, 3) := by decide +kernel
theorem dX5_daysBefore_55 : decode cX5_daysBefore 55 = .ok (.goto (-22), 3) := by decide +kernel
theorem dX5_daysBefore_58 : decode cX5_daysBefore 58 = .ok (.iload_n 2, 1) := by decide +kernel
theorem dX5_daysBefore_59 : decode cX5_daysBefore 59 = .ok (.ireturn, 1) := by decide +kernel
set_option maxRecDepth 20000 in
theorem ggX5_dateCode_X5_daysOfYear : GoodIn wsX5_dateCode wsX5_daysOfYear := goodIn_r _ [4, 5, 6, 3, 7] (by decide +kernel) (by decide +kernel)
set_option maxRecDepth 20000 in
theorem gX5_dateCode_X5_daysOfYear : GoodIn wsX5_dateCode (va_wsS RX5 303 yX5_daysOfYear wsX5_daysOfYear) := goodIn_app (goodIn_of _ (by decide +kernel)) ggX5_dateCode_X5_daysOfYear
set_option maxRecDepth 20000 in
theorem ggX5_dateCode_X5_daysOfMonth : GoodIn wsX5_dateCode wsX5_daysOfMonth := goodIn_r _ [10, 11, 5, 6, 3, 7] (by decide +kernel) (by decide +kernel)
set_option maxRecDepth 20000 in
theorem gX5_dateCode_X5_daysOfMonth : GoodIn wsX5_dateCode (va_wsS RX5 294 yX5_daysOfMonth wsX5_daysOfMonth) := goodIn_app (goodIn_of _ (by decide +kernel)) ggX5_dateCode_X5_daysOfMonth
theorem dX5_dateCode_0 : decode cX5_dateCode 0 = .ok (.iload_n 0, 1) := by decide +kernel
theorem dX5_dateCode_1 : decode cX5_dateCode 1 = .ok (.istore_n 1, 1) := by decide +kernel
theorem dX5_dateCode_2 : decode cX5_dateCode 2 = .ok (.sipush 1900, 3) := by decide +kernel
theorem dX5_dateCode_5 : decode cX5_dateCode 5 = .ok (.istore_n 2, 1) := by decide +kernel
theorem dX5_dateCode_6 : decode cX5_dateCode 6 = .ok (.iload_n 2, 1) := by decide +kernel
theorem dX5_dateCode_7 : decode cX5_dateCode 7 = .ok (.sipush 2099, 3) := by decide +kernel
theorem dX5_dateCode_10 : decode cX5_dateCode 10 = .ok (.if_icmp .ge 24, 3) := by decide +kernel
theorem dX5_dateCode_13 : decode cX5_dateCode 13 = .ok (.iload_n 1, 1) := by decide +kernel
theorem dX5_dateCode_14 : decode cX5_dateCode 14 = .ok (.iload_n 2, 1) := by decide +kernel
theorem dX5_dateCode_15 : decode cX5_dateCode 15 = .ok (.invokestatic 303, 3) := by decide +kernel
theorem dX5_dateCode_18 : decode cX5_dateCode 18 = .ok (.if_icmp .lt 16, 3) := by decide +kernel
theorem dX5_dateCode_21 : decode cX5_dateCode 21 = .ok (.iload_n 1, 1) := by decide +kernel
theorem dX5_dateCode_22 : decode cX5_dateCode 22 = .ok (.iload_n 2, 1) := by decide +kernel
theorem dX5_dateCode_23 : decode cX5_dateCode 23 = .ok (.invokestatic 303, 3) := by decide +kernel
theorem dX5_dateCode_26 : decode cX5_dateCode 26 = .ok (.isub, 1) := by decide +kernel
theorem dX5_dateCode_27 : decode cX5_dateCode 27 = .ok (.istore_n 1, 1) := by decide +kernel
theorem dX5_dateCode_28 : decode cX5_dateCode 28 = .ok (.iinc 2 1, 3) := by decide +kernel
theorem dX5_dateCode_31 : decode cX5_dateCode 31 = .ok (.goto (-25), 3) := by decide +kernel
theorem dX5_dateCode_34 : decode cX5_dateCode 34 = .ok (.iconst 1, 1) := by decide +kernel
theorem dX5_dateCode_35 : decode cX5_dateCode 35 = .ok (.istore_n 3, 1) := by decide +kernel
theorem dX5_dateCode_36 : decode cX5_dateCode 36 = .ok (.iload_n 3, 1) := by decide +kernel
theorem dX5_dateCode_37 : decode cX5_dateCode 37 = .ok (.bipush 12, 2) := by decide +kernel
theorem dX5_dateCode_39 : decode cX5_dateCode 39 = .ok (.if_icmp .ge 26, 3) := by decide +kernel
theorem dX5_dateCode_42 : decode cX5_dateCode 42 = .ok (.iload_n 1, 1) := by decide +kernel
theorem dX5_dateCode_43 : decode cX5_dateCode 43 = .ok (.iload_n 2, 1) := by decide +kernel
theorem dX5_dateCode_44 : decode cX5_dateCode 44 = .ok (.iload_n 3, 1) := by decide +kernel
theorem dX5_dateCode_45 : decode cX5_dateCode 45 = .ok (.invokestatic 294, 3) := by decide +kernel
theorem dX5_dateCode_48 : decode cX5_dateCode 48 = .ok (.if_icmp .lt 17, 3) := by decide +kernel
theorem dX5_dateCode_51 : decode cX5_dateCode 51 = .ok (.iload_n 1, 1) := by decide +kernel
theorem dX5_dateCode_52 : decode cX5_dateCode 52 = .ok (.iload_n 2, 1) := by decide +kernel
theorem dX5_dateCode_53 : decode cX5_dateCode 53 = .ok (.iload_n 3, 1) := by decide +kernel
theorem dX5_dateCode_54 : decode cX5_dateCode 54 = .ok (.invokestatic 294, 3) := by decide +kernel
theorem dX5_dateCode_57 : decode cX5_dateCode 57 = .ok (.isub, 1) := by decide +kernel
theorem dX5_dateCode_58 : decode cX5_dateCode 58 = .ok (.istore_n 1, 1) := by decide +kernel
theorem dX5_dateCode_59 : decode cX5_dateCode 59 = .ok (.iinc 3 1, 3) := by decide +kernel
theorem dX5_dateCode_62 : decode cX5_dateCode 62 = .ok (.goto (-26), 3) := by decide +kernel
theorem dX5_dateCode_65 : decode cX5_dateCode 65 = .ok (.sipush 10000, 3) := by decide +kernel
theorem dX5_dateCode_68 : decode cX5_dateCode 68 = .ok (.iload_n 2, 1) := by decide +kernel
theorem dX5_dateCode_69 : decode cX5_dateCode 69 = .ok (.imul, 1) := by decide +kernel
theorem dX5_dateCode_70 : decode cX5_dateCode 70 = .ok (.bipush 100, 2) := by decide +kernel
theorem dX5_dateCode_72 : decode cX5_dateCode 72 = .ok (.iload_n 3, 1) := by decide +kernel
theorem dX5_dateCode_73 : decode cX5_dateCode 73 = .ok (.imul, 1) := by decide +kernel
theorem dX5_dateCode_74 : decode cX5_dateCode 74 = .ok (.iadd, 1) := by decide +kernel
theorem dX5_dateCode_75 : decode cX5_dateCode 75 = .ok (.iload_n 1, 1) := by decide +kernel
theorem dX5_dateCode_76 : decode cX5_dateCode 76 = .ok (.iadd, 1) := by decide +kernel
theorem dX5_dateCode_77 : decode cX5_dateCode 77 = .ok (.iconst 1, 1) := by decide +kernel
theorem dX5_dateCode_78 : decode cX5_dateCode 78 = .ok (.iadd, 1) := by decide +kernel
theorem dX5_dateCode_79 : decode cX5_dateCode 79 = .ok (.ireturn, 1) := by decide +kernel
set_option maxRecDepth 20000 in
theorem ggX5_answer_X5_isResult : GoodIn wsX5_answer wsX5_isResult := goodIn_r _ [7] (by decide +kernel) (by decide +kernel)
set_option maxRecDepth 20000 in
theorem gX5_answer_X5_isResult : GoodIn wsX5_answer (va_wsS RX5 306 yX5_isResult wsX5_isResult) := goodIn_app (goodIn_of _ (by decide +kernel)) ggX5_answer_X5_isResult
set_option maxRecDepth 20000 in
theorem ggX5_answer_X3_answerFor : GoodIn wsX5_answer wsX3_answerFor := goodIn_r _ [12, 13, 14, 15, 16, 17, 18, 19, 11, 20, 21, 22, 23, 24, 25, 26, 27, 28, 29, 30, 31, 32, 33, 34, 35, 36, 37, 38, 39, 40, 41, 42, 43, 44, 45, 46, 47, 48, 49, 50, 51, 52, 53, 54, 55, 63, 64, 65, 66, 67, 68, 69, 70, 71, 72, 73] (by decide +kernel) (by decide +kernel)
set_option maxRecDepth 20000 in
theorem gX5_answer_X3_answerFor : GoodIn wsX5_answer (wsV RX5 309 RX3 yX3_answerFor wsX3_answerFor) := goodIn_app (goodIn_of _ (by decide +kernel)) ggX5_answer_X3_answerFor
theorem dX5_answer_0 : decode cX5_answer 0 = .ok (.iload_n 1, 1) := by decide +kernel
theorem dX5_answer_1 : decode cX5_answer 1 = .ok (.invokestatic 306, 3) := by decide +kernel
theorem dX5_answer_4 : decode cX5_answer 4 = .ok (.ifCond .ne 6, 3) := by decide +kernel
theorem dX5_answer_7 : decode cX5_answer 7 = .ok (.ldc 41, 2) := by decide +kernel
theorem dX5_answer_9 : decode cX5_answer 9 = .ok (.ireturn, 1) := by decide +kernel
theorem dX5_answer_10 : decode cX5_answer 10 = .ok (.aload_n 0, 1) := by decide +kernel
theorem dX5_answer_11 : decode cX5_answer 11 = .ok (.getfield 12, 3) := by decide +kernel
theorem dX5_answer_14 : decode cX5_answer 14 = .ok (.iload_n 1, 1) := by decide +kernel
theorem dX5_answer_15 : decode cX5_answer 15 = .ok (.aload_n 0, 1) := by decide +kernel
theorem dX5_answer_16 : decode cX5_answer 16 = .ok (.getfield 12, 3) := by decide +kernel
theorem dX5_answer_19 : decode cX5_answer 19 = .ok (.getfield 158, 3) := by decide +kernel
theorem dX5_answer_22 : decode cX5_answer 22 = .ok (.iconst (-1), 1) := by decide +kernel
theorem dX5_answer_23 : decode cX5_answer 23 = .ok (.invokevirtual 309, 3) := by decide +kernel
theorem dX5_answer_26 : decode cX5_answer 26 = .ok (.ireturn, 1) := by decide +kernel
set_option maxRecDepth 20000 in
theorem ggX5_reasons_X5_isResult : GoodIn wsX5_reasons wsX5_isResult := goodIn_r _ [5] (by decide +kernel) (by decide +kernel)
set_option maxRecDepth 20000 in
theorem gX5_reasons_X5_isResult : GoodIn wsX5_reasons (va_wsS RX5 306 yX5_isResult wsX5_isResult) := goodIn_app (goodIn_of _ (by decide +kernel)) ggX5_reasons_X5_isResult
set_option maxRecDepth 20000 in
theorem ggX5_reasons_X5_collectReasons : GoodIn wsX5_reasons wsX5_collectReasons := goodIn_r _ [9, 10, 11, 12, 13, 14, 15, 16, 17, 18, 19, 20, 21, 22, 23, 24, 25, 26, 27, 28, 29, 30, 31, 32, 33, 34, 35, 36, 37, 38, 39, 40, 41, 42, 43, 44, 45, 46, 47, 48, 49, 50, 51, 52, 53, 54, 55, 56, 57, 58, 59, 60, 61, 62, 63, 64, 65, 66, 67, 68, 69, 70, 71, 72] (by decide +kernel) (by decide +kernel)
set_option maxRecDepth 20000 in
theorem gX5_reasons_X5_collectReasons : GoodIn wsX5_reasons (wsV RX5 313 RX5 yX5_collectReasons wsX5_collectReasons) := goodIn_app (goodIn_of _ (by decide +kernel)) ggX5_reasons_X5_collectReasons
theorem dX5_reasons_0 : decode cX5_reasons 0 = .ok (.iload_n 1, 1) := by decide +kernel
theorem dX5_reasons_1 : decode cX5_reasons 1 = .ok (.invokestatic 306, 3) := by decide +kernel
theorem dX5_reasons_4 : decode cX5_reasons 4 = .ok (.ifCond .ne 6, 3) := by decide +kernel
theorem dX5_reasons_7 : decode cX5_reasons 7 = .ok (.ldc 41, 2) := by decide +kernel
theorem dX5_reasons_9 : decode cX5_reasons 9 = .ok (.ireturn, 1) := by decide +kernel
theorem dX5_reasons_10 : decode cX5_reasons 10 = .ok (.aload_n 0, 1) := by decide +kernel
theorem dX5_reasons_11 : decode cX5_reasons 11 = .ok (.iload_n 1, 1) := by decide +kernel
theorem dX5_reasons_12 : decode cX5_reasons 12 = .ok (.invokevirtual 313, 3) := by decide +kernel
theorem dX5_reasons_15 : decode cX5_reasons 15 = .ok (.ireturn, 1) := by decide +kernel
set_option maxRecDepth 20000 in
theorem ggX5_reason_X5_isResult : GoodIn wsX5_reason wsX5_isResult := goodIn_r _ [7] (by decide +kernel) (by decide +kernel)
set_option maxRecDepth 20000 in
theorem gX5_reason_X5_isResult : GoodIn wsX5_reason (va_wsS RX5 306 yX5_isResult wsX5_isResult) := goodIn_app (goodIn_of _ (by decide +kernel)) ggX5_reason_X5_isResult
set_option maxRecDepth 20000 in
theorem ggX5_reason_X5_collectReasons : GoodIn wsX5_reason wsX5_collectReasons := goodIn_r _ [11, 12, 13, 2, 14, 15, 16, 17, 18, 19, 20, 21, 22, 23, 24, 25, 26, 27, 28, 29, 30, 31, 32, 33, 34, 35, 36, 37, 38, 39, 40, 41, 42, 43, 44, 45, 46, 47, 48, 49, 50, 51, 52, 53, 54, 55, 73, 74, 75, 76, 77, 78, 79, 80, 81, 82, 83, 84, 85, 86, 87, 88, 89, 90] (by decide +kernel) (by decide +kernel)
set_option maxRecDepth 20000 in
theorem gX5_reason_X5_collectReasons : GoodIn wsX5_reason (wsV RX5 313 RX5 yX5_collectReasons wsX5_collectReasons) := goodIn_app (goodIn_of _ (by decide +kernel)) ggX5_reason_X5_collectReasons
set_option maxRecDepth 20000 in
theorem ggX5_reason_X5_rankOfReason : GoodIn wsX5_reason wsX5_rankOfReason := goodIn_r _ [59, 12, 2, 60, 61, 62, 18, 63, 24, 25, 26, 27, 28, 29, 30, 64, 65, 66, 40, 67, 42, 43, 68, 6, 69, 70, 71, 72, 73, 74, 75, 76, 77, 78, 79, 84, 85, 86, 87, 88, 80, 81, 82, 83, 89, 90] (by decide +kernel) (by decide +kernel)
set_option maxRecDepth 20000 in
theorem gX5_reason_X5_rankOfReason : GoodIn wsX5_reason (wsV RX5 316 RX5 yX5_rankOfReason wsX5_rankOfReason) := goodIn_app (goodIn_of _ (by decide +kernel)) ggX5_reason_X5_rankOfReason
theorem dX5_reason_0 : decode cX5_reason 0 = .ok (.iload_n 1, 1) := by decide +kernel
theorem dX5_reason_1 : decode cX5_reason 1 = .ok (.invokestatic 306, 3) := by decide +kernel
theorem dX5_reason_4 : decode cX5_reason 4 = .ok (.ifCond .eq 7, 3) := by decide +kernel
theorem dX5_reason_7 : decode cX5_reason 7 = .ok (.iload_n 2, 1) := by decide +kernel
theorem dX5_reason_8 : decode cX5_reason 8 = .ok (.ifCond .ge 6, 3) := by decide +kernel
theorem dX5_reason_11 : decode cX5_reason 11 = .ok (.ldc 41, 2) := by decide +kernel
theorem dX5_reason_13 : decode cX5_reason 13 = .ok (.ireturn, 1) := by decide +kernel
theorem dX5_reason_14 : decode cX5_reason 14 = .ok (.aload_n 0, 1) := by decide +kernel
theorem dX5_reason_15 : decode cX5_reason 15 = .ok (.iload_n 1, 1) := by decide +kernel
theorem dX5_reason_16 : decode cX5_reason 16 = .ok (.invokevirtual 313, 3) := by decide +kernel
theorem dX5_reason_19 : decode cX5_reason 19 = .ok (.istore_n 3, 1) := by decide +kernel
theorem dX5_reason_20 : decode cX5_reason 20 = .ok (.iconst 0, 1) := by decide +kernel
theorem dX5_reason_21 : decode cX5_reason 21 = .ok (.istore 4, 2) := by decide +kernel
theorem dX5_reason_23 : decode cX5_reason 23 = .ok (.iload 4, 2) := by decide +kernel
theorem dX5_reason_25 : decode cX5_reason 25 = .ok (.iload_n 3, 1) := by decide +kernel
theorem dX5_reason_26 : decode cX5_reason 26 = .ok (.if_icmp .ge 33, 3) := by decide +kernel
theorem dX5_reason_29 : decode cX5_reason 29 = .ok (.aload_n 0, 1) := by decide +kernel
theorem dX5_reason_30 : decode cX5_reason 30 = .ok (.aload_n 0, 1) := by decide +kernel
theorem dX5_reason_31 : decode cX5_reason 31 = .ok (.getfield 31, 3) := by decide +kernel
theorem dX5_reason_34 : decode cX5_reason 34 = .ok (.iload 4, 2) := by decide +kernel
theorem dX5_reason_36 : decode cX5_reason 36 = .ok (.iaload, 1) := by decide +kernel
theorem dX5_reason_37 : decode cX5_reason 37 = .ok (.iload_n 3, 1) := by decide +kernel
theorem dX5_reason_38 : decode cX5_reason 38 = .ok (.invokevirtual 316, 3) := by decide +kernel
theorem dX5_reason_41 : decode cX5_reason 41 = .ok (.iload_n 2, 1) := by decide +kernel
theorem dX5_reason_42 : decode cX5_reason 42 = .ok (.if_icmp .ne 11, 3) := by decide +kernel
theorem dX5_reason_45 : decode cX5_reason 45 = .ok (.aload_n 0, 1) := by decide +kernel
theorem dX5_reason_46 : decode cX5_reason 46 = .ok (.getfield 31, 3) := by decide +kernel
theorem dX5_reason_49 : decode cX5_reason 49 = .ok (.iload 4, 2) := by decide +kernel
theorem dX5_reason_51 : decode cX5_reason 51 = .ok (.iaload, 1) := by decide +kernel
theorem dX5_reason_52 : decode cX5_reason 52 = .ok (.ireturn, 1) := by decide +kernel
theorem dX5_reason_53 : decode cX5_reason 53 = .ok (.iinc 4 1, 3) := by decide +kernel
theorem dX5_reason_56 : decode cX5_reason 56 = .ok (.goto (-33), 3) := by decide +kernel
theorem dX5_reason_59 : decode cX5_reason 59 = .ok (.ldc 105, 2) := by decide +kernel
theorem dX5_reason_61 : decode cX5_reason 61 = .ok (.ireturn, 1) := by decide +kernel
set_option maxRecDepth 20000 in
theorem ggX5_collectReasons_X3_isReason : GoodIn wsX5_collectReasons wsX3_isReason := goodIn_r _ [9, 10, 11, 12, 8, 13, 14, 15, 16, 17, 18, 19, 20, 21, 22, 23, 24, 25, 26, 27, 28, 29, 30, 31, 32, 33, 34, 35, 36, 37, 38, 39, 40, 41, 42, 43, 44, 45, 57, 58, 59, 60, 61, 53, 54, 55, 56, 62, 63] (by decide +kernel) (by decide +kernel)
set_option maxRecDepth 20000 in
theorem gX5_collectReasons_X3_isReason : GoodIn wsX5_collectReasons (wsV RX5 319 RX3 yX3_isReason wsX3_isReason) := goodIn_app (goodIn_of _ (by decide +kernel)) ggX5_collectReasons_X3_isReason
theorem dX5_collectReasons_0 : decode cX5_collectReasons 0 = .ok (.iconst 0, 1) := by decide +kernel
theorem dX5_collectReasons_1 : decode cX5_collectReasons 1 = .ok (.istore_n 2, 1) := by decide +kernel
theorem dX5_collectReasons_2 : decode cX5_collectReasons 2 = .ok (.iconst 0, 1) := by decide +kernel
theorem dX5_collectReasons_3 : decode cX5_collectReasons 3 = .ok (.istore_n 3, 1) := by decide +kernel
theorem dX5_collectReasons_4 : decode cX5_collectReasons 4 = .ok (.iload_n 3, 1) := by decide +kernel
theorem dX5_collectReasons_5 : decode cX5_collectReasons 5 = .ok (.aload_n 0, 1) := by decide +kernel
theorem dX5_collectReasons_6 : decode cX5_collectReasons 6 = .ok (.getfield 12, 3) := by decide +kernel
theorem dX5_collectReasons_9 : decode cX5_collectReasons 9 = .ok (.getfield 86, 3) := by decide +kernel
theorem dX5_collectReasons_12 : decode cX5_collectReasons 12 = .ok (.if_icmp .ge 48, 3) := by decide +kernel
theorem dX5_collectReasons_15 : decode cX5_collectReasons 15 = .ok (.iload_n 2, 1) := by decide +kernel
theorem dX5_collectReasons_16 : decode cX5_collectReasons 16 = .ok (.aload_n 0, 1) := by decide +kernel
theorem dX5_collectReasons_17 : decode cX5_collectReasons 17 = .ok (.getfield 31, 3) := by decide +kernel
theorem dX5_collectReasons_20 : decode cX5_collectReasons 20 = .ok (.arraylength, 1) := by decide +kernel
theorem dX5_collectReasons_21 : decode cX5_collectReasons 21 = .ok (.if_icmp .ge 39, 3) := by decide +kernel
theorem dX5_collectReasons_24 : decode cX5_collectReasons 24 = .ok (.aload_n 0, 1) := by decide +kernel
theorem dX5_collectReasons_25 : decode cX5_collectReasons 25 = .ok (.getfield 12, 3) := by decide +kernel
theorem dX5_collectReasons_28 : decode cX5_collectReasons 28 = .ok (.iload_n 3, 1) := by decide +kernel
theorem dX5_collectReasons_29 : decode cX5_collectReasons 29 = .ok (.iload_n 1, 1) := by decide +kernel
theorem dX5_collectReasons_30 : decode cX5_collectReasons 30 = .ok (.aload_n 0, 1) := by decide +kernel
theorem dX5_collectReasons_31 : decode cX5_collectReasons 31 = .ok (.getfield 12, 3) := by decide +kernel
theorem dX5_collectReasons_34 : decode cX5_collectReasons 34 = .ok (.getfield 158, 3) := by decide +kernel
theorem dX5_collectReasons_37 : decode cX5_collectReasons 37 = .ok (.iconst (-1), 1) := by decide +kernel
theorem dX5_collectReasons_38 : decode cX5_collectReasons 38 = .ok (.invokevirtual 319, 3) := by decide +kernel
theorem dX5_collectReasons_41 : decode cX5_collectReasons 41 = .ok (.ifCond .eq 13, 3) := by decide +kernel
theorem dX5_collectReasons_44 : decode cX5_collectReasons 44 = .ok (.aload_n 0, 1) := by decide +kernel
theorem dX5_collectReasons_45 : decode cX5_collectReasons 45 = .ok (.getfield 31, 3) := by decide +kernel
theorem dX5_collectReasons_48 : decode cX5_collectReasons 48 = .ok (.iload_n 2, 1) := by decide +kernel
theorem dX5_collectReasons_49 : decode cX5_collectReasons 49 = .ok (.iload_n 3, 1) := by decide +kernel
theorem dX5_collectReasons_50 : decode cX5_collectReasons 50 = .ok (.iastore, 1) := by decide +kernel
theorem dX5_collectReasons_51 : decode cX5_collectReasons 51 = .ok (.iinc 2 1, 3) := by decide +kernel
theorem dX5_collectReasons_54 : decode cX5_collectReasons 54 = .ok (.iinc 3 1, 3) := by decide +kernel
theorem dX5_collectReasons_57 : decode cX5_collectReasons 57 = .ok (.goto (-53), 3) := by decide +kernel
theorem dX5_collectReasons_60 : decode cX5_collectReasons 60 = .ok (.iload_n 2, 1) := by decide +kernel
theorem dX5_collectReasons_61 : decode cX5_collectReasons 61 = .ok (.ireturn, 1) := by decide +kernel
set_option maxRecDepth 20000 in
theorem ggX5_rankOfReason_X3_comesBefore : GoodIn wsX5_rankOfReason wsX3_comesBefore := goodIn_r _ [7, 8, 9, 10, 11, 6, 12, 13, 14, 15, 16, 17, 18, 19, 20, 21, 22, 23, 24, 25, 26, 27, 35, 36, 37, 38, 39, 40, 41, 42, 43, 44, 45] (by decide +kernel) (by decide +kernel)
set_option maxRecDepth 20000 in
theorem gX5_rankOfReason_X3_comesBefore : GoodIn wsX5_rankOfReason (wsV RX5 323 RX3 yX3_comesBefore wsX3_comesBefore) := goodIn_app (goodIn_of _ (by decide +kernel)) ggX5_rankOfReason_X3_comesBefore
theorem dX5_rankOfReason_0 : decode cX5_rankOfReason 0 = .ok (.iconst 0, 1) := by decide +kernel
theorem dX5_rankOfReason_1 : decode cX5_rankOfReason 1 = .ok (.istore_n 3, 1) := by decide +kernel
theorem dX5_rankOfReason_2 : decode cX5_rankOfReason 2 = .ok (.iconst 0, 1) := by decide +kernel
theorem dX5_rankOfReason_3 : decode cX5_rankOfReason 3 = .ok (.istore 4, 2) := by decide +kernel
theorem dX5_rankOfReason_5 : decode cX5_rankOfReason 5 = .ok (.iload 4, 2) := by decide +kernel
theorem dX5_rankOfReason_7 : decode cX5_rankOfReason 7 = .ok (.iload_n 2, 1) := by decide +kernel
theorem dX5_rankOfReason_8 : decode cX5_rankOfReason 8 = .ok (.if_icmp .ge 30, 3) := by decide +kernel
theorem dX5_rankOfReason_11 : decode cX5_rankOfReason 11 = .ok (.aload_n 0, 1) := by decide +kernel
theorem dX5_rankOfReason_12 : decode cX5_rankOfReason 12 = .ok (.getfield 12, 3) := by decide +kernel
theorem dX5_rankOfReason_15 : decode cX5_rankOfReason 15 = .ok (.aload_n 0, 1) := by decide +kernel
theorem dX5_rankOfReason_16 : decode cX5_rankOfReason 16 = .ok (.getfield 31, 3) := by decide +kernel
theorem dX5_rankOfReason_19 : decode cX5_rankOfReason 19 = .ok (.iload 4, 2) := by decide +kernel
theorem dX5_rankOfReason_21 : decode cX5_rankOfReason 21 = .ok (.iaload, 1) := by decide +kernel
theorem dX5_rankOfReason_22 : decode cX5_rankOfReason 22 = .ok (.iload_n 1, 1) := by decide +kernel
theorem dX5_rankOfReason_23 : decode cX5_rankOfReason 23 = .ok (.invokevirtual 323, 3) := by decide +kernel
theorem dX5_rankOfReason_26 : decode cX5_rankOfReason 26 = .ok (.ifCond .eq 6, 3) := by decide +kernel
theorem dX5_rankOfReason_29 : decode cX5_rankOfReason 29 = .ok (.iinc 3 1, 3) := by decide +kernel
theorem dX5_rankOfReason_32 : decode cX5_rankOfReason 32 = .ok (.iinc 4 1, 3) := by decide +kernel
theorem dX5_rankOfReason_35 : decode cX5_rankOfReason 35 = .ok (.goto (-30), 3) := by decide +kernel
theorem dX5_rankOfReason_38 : decode cX5_rankOfReason 38 = .ok (.iload_n 3, 1) := by decide +kernel
theorem dX5_rankOfReason_39 : decode cX5_rankOfReason 39 = .ok (.ireturn, 1) := by decide +kernel
set_option maxRecDepth 20000 in
theorem ggX5_overridden_X5_isResult : GoodIn wsX5_overridden wsX5_isResult := goodIn_r _ [8] (by decide +kernel) (by decide +kernel)
set_option maxRecDepth 20000 in
theorem gX5_overridden_X5_isResult : GoodIn wsX5_overridden (va_wsS RX5 306 yX5_isResult wsX5_isResult) := goodIn_app (goodIn_of _ (by decide +kernel)) ggX5_overridden_X5_isResult
set_option maxRecDepth 20000 in
theorem ggX5_overridden_X3_applies : GoodIn wsX5_overridden wsX3_applies := goodIn_r _ [13, 14, 15, 16, 17, 12, 18, 19, 20, 21, 22, 23, 24, 25, 26, 27, 28, 29, 30, 31, 32, 33, 58, 59, 60, 61, 62, 54, 55, 56, 57, 63, 64] (by decide +kernel) (by decide +kernel)
set_option maxRecDepth 20000 in
theorem gX5_overridden_X3_applies : GoodIn wsX5_overridden (wsV RX5 326 RX3 yX3_applies wsX3_applies) := goodIn_app (goodIn_of _ (by decide +kernel)) ggX5_overridden_X3_applies
set_option maxRecDepth 20000 in
theorem ggX5_overridden_X3_isOverridden : GoodIn wsX5_overridden wsX3_isOverridden := goodIn_r _ [37, 19, 14, 15, 16, 17, 12, 18, 20, 38, 10, 11, 13, 21, 22, 23, 24, 25, 26, 27, 28, 29, 30, 31, 32, 33, 39, 40, 41, 42, 43, 44, 45, 46, 54, 55, 56, 57, 58, 59, 60, 61, 62, 63, 64] (by decide +kernel) (by decide +kernel)
set_option maxRecDepth 20000 in
theorem gX5_overridden_X3_isOverridden : GoodIn wsX5_overridden (wsV RX5 329 RX3 yX3_isOverridden wsX3_isOverridden) := goodIn_app (goodIn_of _ (by decide +kernel)) ggX5_overridden_X3_isOverridden
theorem dX5_overridden_0 : decode cX5_overridden 0 = .ok (.iload_n 1, 1) := by decide +kernel
theorem dX5_overridden_1 : decode cX5_overridden 1 = .ok (.invokestatic 306, 3) := by decide +kernel
theorem dX5_overridden_4 : decode cX5_overridden 4 = .ok (.ifCond .ne 6, 3) := by decide +kernel
theorem dX5_overridden_7 : decode cX5_overridden 7 = .ok (.ldc 41, 2) := by decide +kernel
theorem dX5_overridden_9 : decode cX5_overridden 9 = .ok (.ireturn, 1) := by decide +kernel
theorem dX5_overridden_10 : decode cX5_overridden 10 = .ok (.iconst 0, 1) := by decide +kernel
theorem dX5_overridden_11 : decode cX5_overridden 11 = .ok (.istore_n 2, 1) := by decide +kernel
theorem dX5_overridden_12 : decode cX5_overridden 12 = .ok (.iconst 0, 1) := by decide +kernel
theorem dX5_overridden_13 : decode cX5_overridden 13 = .ok (.istore_n 3, 1) := by decide +kernel
theorem dX5_overridden_14 : decode cX5_overridden 14 = .ok (.iload_n 3, 1) := by decide +kernel
theorem dX5_overridden_15 : decode cX5_overridden 15 = .ok (.aload_n 0, 1) := by decide +kernel
theorem dX5_overridden_16 : decode cX5_overridden 16 = .ok (.getfield 12, 3) := by decide +kernel
theorem dX5_overridden_19 : decode cX5_overridden 19 = .ok (.getfield 86, 3) := by decide +kernel
theorem dX5_overridden_22 : decode cX5_overridden 22 = .ok (.if_icmp .ge 52, 3) := by decide +kernel
theorem dX5_overridden_25 : decode cX5_overridden 25 = .ok (.aload_n 0, 1) := by decide +kernel
theorem dX5_overridden_26 : decode cX5_overridden 26 = .ok (.getfield 12, 3) := by decide +kernel
theorem dX5_overridden_29 : decode cX5_overridden 29 = .ok (.iload_n 3, 1) := by decide +kernel
theorem dX5_overridden_30 : decode cX5_overridden 30 = .ok (.iload_n 1, 1) := by decide +kernel
theorem dX5_overridden_31 : decode cX5_overridden 31 = .ok (.aload_n 0, 1) := by decide +kernel
theorem dX5_overridden_32 : decode cX5_overridden 32 = .ok (.getfield 12, 3) := by decide +kernel
theorem dX5_overridden_35 : decode cX5_overridden 35 = .ok (.getfield 158, 3) := by decide +kernel
theorem dX5_overridden_38 : decode cX5_overridden 38 = .ok (.iconst (-1), 1) := by decide +kernel
theorem dX5_overridden_39 : decode cX5_overridden 39 = .ok (.invokevirtual 326, 3) := by decide +kernel
theorem dX5_overridden_42 : decode cX5_overridden 42 = .ok (.ifCond .eq 26, 3) := by decide +kernel
theorem dX5_overridden_45 : decode cX5_overridden 45 = .ok (.aload_n 0, 1) := by decide +kernel
theorem dX5_overridden_46 : decode cX5_overridden 46 = .ok (.getfield 12, 3) := by decide +kernel
theorem dX5_overridden_49 : decode cX5_overridden 49 = .ok (.iload_n 3, 1) := by decide +kernel
theorem dX5_overridden_50 : decode cX5_overridden 50 = .ok (.iload_n 1, 1) := by decide +kernel
theorem dX5_overridden_51 : decode cX5_overridden 51 = .ok (.aload_n 0, 1) := by decide +kernel
theorem dX5_overridden_52 : decode cX5_overridden 52 = .ok (.getfield 12, 3) := by decide +kernel
theorem dX5_overridden_55 : decode cX5_overridden 55 = .ok (.getfield 158, 3) := by decide +kernel
theorem dX5_overridden_58 : decode cX5_overridden 58 = .ok (.iconst (-1), 1) := by decide +kernel
theorem dX5_overridden_59 : decode cX5_overridden 59 = .ok (.invokevirtual 329, 3) := by decide +kernel
theorem dX5_overridden_62 : decode cX5_overridden 62 = .ok (.ifCond .eq 6, 3) := by decide +kernel
theorem dX5_overridden_65 : decode cX5_overridden 65 = .ok (.iinc 2 1, 3) := by decide +kernel
theorem dX5_overridden_68 : decode cX5_overridden 68 = .ok (.iinc 3 1, 3) := by decide +kernel
theorem dX5_overridden_71 : decode cX5_overridden 71 = .ok (.goto (-57), 3) := by decide +kernel
theorem dX5_overridden_74 : decode cX5_overridden 74 = .ok (.iload_n 2, 1) := by decide +kernel
theorem dX5_overridden_75 : decode cX5_overridden 75 = .ok (.ireturn, 1) := by decide +kernel
set_option maxRecDepth 20000 in
theorem ggX5_holds_X5_isDefinable : GoodIn wsX5_holds wsX5_isDefinable := goodIn_r _ [9] (by decide +kernel) (by decide +kernel)
set_option maxRecDepth 20000 in
theorem gX5_holds_X5_isDefinable : GoodIn wsX5_holds (va_wsS RX5 185 yX5_isDefinable wsX5_isDefinable) := goodIn_app (goodIn_of _ (by decide +kernel)) ggX5_holds_X5_isDefinable
set_option maxRecDepth 20000 in
theorem ggX5_holds_X3_definitionOf : GoodIn wsX5_holds wsX3_definitionOf := goodIn_r _ [14, 15, 16, 17, 18, 19, 13, 20, 21, 42, 43, 44, 45, 37, 38, 39, 40, 41] (by decide +kernel) (by decide +kernel)
set_option maxRecDepth 20000 in
theorem gX5_holds_X3_definitionOf : GoodIn wsX5_holds (wsV RX5 109 RX3 yX3_definitionOf wsX3_definitionOf) := goodIn_app (goodIn_of _ (by decide +kernel)) ggX5_holds_X3_definitionOf
set_option maxRecDepth 20000 in
theorem ggX5_holds_X3_sentenceAt : GoodIn wsX5_holds wsX3_sentenceAt := goodIn_r _ [20, 15, 21, 42, 43, 44, 45] (by decide +kernel) (by decide +kernel)
set_option maxRecDepth 20000 in
theorem gX5_holds_X3_sentenceAt : GoodIn wsX5_holds (wsV RX5 131 RX3 yX3_sentenceAt wsX3_sentenceAt) := goodIn_app (goodIn_of _ (by decide +kernel)) ggX5_holds_X3_sentenceAt
set_option maxRecDepth 20000 in
theorem ggX5_holds_X1_hasValues : GoodIn wsX5_holds wsX1_hasValues := goodIn_r _ [27, 28, 29, 46, 47] (by decide +kernel) (by decide +kernel)
set_option maxRecDepth 20000 in
theorem gX5_holds_X1_hasValues : GoodIn wsX5_holds (wsV RX5 332 RX1 yX1_hasValues wsX1_hasValues) := goodIn_app (goodIn_of _ (by decide +kernel)) ggX5_holds_X1_hasValues
theorem dX5_holds_0 : decode cX5_holds 0 = .ok (.iload_n 1, 1) := by decide +kernel
theorem dX5_holds_1 : decode cX5_holds 1 = .ok (.invokestatic 185, 3) := by decide +kernel
theorem dX5_holds_4 : decode cX5_holds 4 = .ok (.ifCond .ne 6, 3) := by decide +kernel
theorem dX5_holds_7 : decode cX5_holds 7 = .ok (.ldc 41, 2) := by decide +kernel
theorem dX5_holds_9 : decode cX5_holds 9 = .ok (.ireturn, 1) := by decide +kernel
theorem dX5_holds_10 : decode cX5_holds 10 = .ok (.aload_n 0, 1) := by decide +kernel
theorem dX5_holds_11 : decode cX5_holds 11 = .ok (.getfield 12, 3) := by decide +kernel
theorem dX5_holds_14 : decode cX5_holds 14 = .ok (.aload_n 0, 1) := by decide +kernel
theorem dX5_holds_15 : decode cX5_holds 15 = .ok (.getfield 12, 3) := by decide +kernel
theorem dX5_holds_18 : decode cX5_holds 18 = .ok (.iload_n 1, 1) := by decide +kernel
theorem dX5_holds_19 : decode cX5_holds 19 = .ok (.invokevirtual 109, 3) := by decide +kernel
theorem dX5_holds_22 : decode cX5_holds 22 = .ok (.invokevirtual 131, 3) := by decide +kernel
theorem dX5_holds_25 : decode cX5_holds 25 = .ok (.astore_n 2, 1) := by decide +kernel
theorem dX5_holds_26 : decode cX5_holds 26 = .ok (.aload_n 2, 1) := by decide +kernel
theorem dX5_holds_27 : decode cX5_holds 27 = .ok (.ifnonnull 6, 3) := by decide +kernel
theorem dX5_holds_30 : decode cX5_holds 30 = .ok (.ldc 105, 2) := by decide +kernel
theorem dX5_holds_32 : decode cX5_holds 32 = .ok (.ireturn, 1) := by decide +kernel
theorem dX5_holds_33 : decode cX5_holds 33 = .ok (.aload_n 2, 1) := by decide +kernel
theorem dX5_holds_34 : decode cX5_holds 34 = .ok (.getfield 135, 3) := by decide +kernel
theorem dX5_holds_37 : decode cX5_holds 37 = .ok (.aload_n 0, 1) := by decide +kernel
theorem dX5_holds_38 : decode cX5_holds 38 = .ok (.getfield 12, 3) := by decide +kernel
theorem dX5_holds_41 : decode cX5_holds 41 = .ok (.getfield 158, 3) := by decide +kernel
theorem dX5_holds_44 : decode cX5_holds 44 = .ok (.invokevirtual 332, 3) := by decide +kernel
theorem dX5_holds_47 : decode cX5_holds 47 = .ok (.ifCond .eq 7, 3) := by decide +kernel
theorem dX5_holds_50 : decode cX5_holds 50 = .ok (.iconst 1, 1) := by decide +kernel
theorem dX5_holds_51 : decode cX5_holds 51 = .ok (.goto 4, 3) := by decide +kernel
theorem dX5_holds_54 : decode cX5_holds 54 = .ok (.iconst 0, 1) := by decide +kernel
theorem dX5_holds_55 : decode cX5_holds 55 = .ok (.ireturn, 1) := by decide +kernel
set_option maxRecDepth 20000 in
theorem ggX5_compare_X3_sentenceAt : GoodIn wsX5_compare wsX3_sentenceAt := goodIn_r _ [8, 9, 10, 46, 47, 48, 49] (by decide +kernel) (by decide +kernel)
set_option maxRecDepth 20000 in
theorem gX5_compare_X3_sentenceAt : GoodIn wsX5_compare (wsV RX5 131 RX3 yX3_sentenceAt wsX3_sentenceAt) := goodIn_app (goodIn_of _ (by decide +kernel)) ggX5_compare_X3_sentenceAt
set_option maxRecDepth 20000 in
theorem ggX5_compare_X1_isSameAs : GoodIn wsX5_compare wsX1_isSameAs := goodIn_r _ [15, 16, 17, 18, 14, 19, 20, 21, 50, 51] (by decide +kernel) (by decide +kernel)
set_option maxRecDepth 20000 in
theorem gX5_compare_X1_isSameAs : GoodIn wsX5_compare (wsV RX5 336 RX1 yX1_isSameAs wsX1_isSameAs) := goodIn_app (goodIn_of _ (by decide +kernel)) ggX5_compare_X1_isSameAs
set_option maxRecDepth 20000 in
theorem ggX5_compare_X1_isInside : GoodIn wsX5_compare wsX1_isInside := goodIn_r _ [19, 20, 21, 50, 51] (by decide +kernel) (by decide +kernel)
set_option maxRecDepth 20000 in
theorem gX5_compare_X1_isInside : GoodIn wsX5_compare (wsV RX5 340 RX1 yX1_isInside wsX1_isInside) := goodIn_app (goodIn_of _ (by decide +kernel)) ggX5_compare_X1_isInside
set_option maxRecDepth 20000 in
theorem ggX5_compare_X1_meets : GoodIn wsX5_compare wsX1_meets := goodIn_r _ [26, 20, 27, 28, 29, 30, 21, 31, 32, 33, 50, 51] (by decide +kernel) (by decide +kernel)
set_option maxRecDepth 20000 in
theorem gX5_compare_X1_meets : GoodIn wsX5_compare (wsV RX5 343 RX1 yX1_meets wsX1_meets) := goodIn_app (goodIn_of _ (by decide +kernel)) ggX5_compare_X1_meets
theorem dX5_compare_0 : decode cX5_compare 0 = .ok (.aload_n 0, 1) := by decide +kernel
theorem dX5_compare_1 : decode cX5_compare 1 = .ok (.getfield 12, 3) := by decide +kernel
theorem dX5_compare_4 : decode cX5_compare 4 = .ok (.iload_n 1, 1) := by decide +kernel
theorem dX5_compare_5 : decode cX5_compare 5 = .ok (.invokevirtual 131, 3) := by decide +kernel
theorem dX5_compare_8 : decode cX5_compare 8 = .ok (.astore_n 3, 1) := by decide +kernel
theorem dX5_compare_9 : decode cX5_compare 9 = .ok (.aload_n 0, 1) := by decide +kernel
theorem dX5_compare_10 : decode cX5_compare 10 = .ok (.getfield 12, 3) := by decide +kernel
theorem dX5_compare_13 : decode cX5_compare 13 = .ok (.iload_n 2, 1) := by decide +kernel
theorem dX5_compare_14 : decode cX5_compare 14 = .ok (.invokevirtual 131, 3) := by decide +kernel
theorem dX5_compare_17 : decode cX5_compare 17 = .ok (.astore 4, 2) := by decide +kernel
theorem dX5_compare_19 : decode cX5_compare 19 = .ok (.aload_n 3, 1) := by decide +kernel
theorem dX5_compare_20 : decode cX5_compare 20 = .ok (.ifnull 8, 3) := by decide +kernel
theorem dX5_compare_23 : decode cX5_compare 23 = .ok (.aload 4, 2) := by decide +kernel
theorem dX5_compare_25 : decode cX5_compare 25 = .ok (.ifnonnull 6, 3) := by decide +kernel
theorem dX5_compare_28 : decode cX5_compare 28 = .ok (.ldc 140, 2) := by decide +kernel
theorem dX5_compare_30 : decode cX5_compare 30 = .ok (.ireturn, 1) := by decide +kernel
theorem dX5_compare_31 : decode cX5_compare 31 = .ok (.aload_n 3, 1) := by decide +kernel
theorem dX5_compare_32 : decode cX5_compare 32 = .ok (.getfield 135, 3) := by decide +kernel
theorem dX5_compare_35 : decode cX5_compare 35 = .ok (.aload 4, 2) := by decide +kernel
theorem dX5_compare_37 : decode cX5_compare 37 = .ok (.getfield 135, 3) := by decide +kernel
theorem dX5_compare_40 : decode cX5_compare 40 = .ok (.invokevirtual 336, 3) := by decide +kernel
theorem dX5_compare_43 : decode cX5_compare 43 = .ok (.ifCond .eq 5, 3) := by decide +kernel
theorem dX5_compare_46 : decode cX5_compare 46 = .ok (.iconst 0, 1) := by decide +kernel
theorem dX5_compare_47 : decode cX5_compare 47 = .ok (.ireturn, 1) := by decide +kernel
theorem dX5_compare_48 : decode cX5_compare 48 = .ok (.aload_n 3, 1) := by decide +kernel
theorem dX5_compare_49 : decode cX5_compare 49 = .ok (.getfield 135, 3) := by decide +kernel
theorem dX5_compare_52 : decode cX5_compare 52 = .ok (.aload 4, 2) := by decide +kernel
theorem dX5_compare_54 : decode cX5_compare 54 = .ok (.getfield 135, 3) := by decide +kernel
theorem dX5_compare_57 : decode cX5_compare 57 = .ok (.invokevirtual 340, 3) := by decide +kernel
theorem dX5_compare_60 : decode cX5_compare 60 = .ok (.ifCond .eq 5, 3) := by decide +kernel
theorem dX5_compare_63 : decode cX5_compare 63 = .ok (.iconst 1, 1) := by decide +kernel
theorem dX5_compare_64 : decode cX5_compare 64 = .ok (.ireturn, 1) := by decide +kernel
theorem dX5_compare_65 : decode cX5_compare 65 = .ok (.aload 4, 2) := by decide +kernel
theorem dX5_compare_67 : decode cX5_compare 67 = .ok (.getfield 135, 3) := by decide +kernel
theorem dX5_compare_70 : decode cX5_compare 70 = .ok (.aload_n 3, 1) := by decide +kernel
theorem dX5_compare_71 : decode cX5_compare 71 = .ok (.getfield 135, 3) := by decide +kernel
theorem dX5_compare_74 : decode cX5_compare 74 = .ok (.invokevirtual 340, 3) := by decide +kernel
theorem dX5_compare_77 : decode cX5_compare 77 = .ok (.ifCond .eq 5, 3) := by decide +kernel
theorem dX5_compare_80 : decode cX5_compare 80 = .ok (.iconst 2, 1) := by decide +kernel
theorem dX5_compare_81 : decode cX5_compare 81 = .ok (.ireturn, 1) := by decide +kernel
theorem dX5_compare_82 : decode cX5_compare 82 = .ok (.aload_n 3, 1) := by decide +kernel
theorem dX5_compare_83 : decode cX5_compare 83 = .ok (.getfield 135, 3) := by decide +kernel
theorem dX5_compare_86 : decode cX5_compare 86 = .ok (.aload 4, 2) := by decide +kernel
theorem dX5_compare_88 : decode cX5_compare 88 = .ok (.getfield 135, 3) := by decide +kernel
theorem dX5_compare_91 : decode cX5_compare 91 = .ok (.invokevirtual 343, 3) := by decide +kernel
theorem dX5_compare_94 : decode cX5_compare 94 = .ok (.ifCond .eq 7, 3) := by decide +kernel
theorem dX5_compare_97 : decode cX5_compare 97 = .ok (.iconst 3, 1) := by decide +kernel
theorem dX5_compare_98 : decode cX5_compare 98 = .ok (.goto 4, 3) := by decide +kernel
theorem dX5_compare_101 : decode cX5_compare 101 = .ok (.iconst 4, 1) := by decide +kernel
theorem dX5_compare_102 : decode cX5_compare 102 = .ok (.ireturn, 1) := by decide +kernel
set_option maxRecDepth 20000 in
theorem ggX5_contradiction_X3_doContradict : GoodIn wsX5_contradiction wsX3_doContradict := goodIn_r _ [9, 10, 11, 12, 13, 14, 15, 8, 16, 17, 18, 19, 20, 21, 22, 23, 24, 25, 26, 27, 28, 29, 30, 31, 32, 33, 34, 35, 36, 37, 38, 39, 40, 41, 42, 43, 44, 45, 46, 47, 48, 49, 50, 51, 52, 53, 54, 55, 56, 57, 58, 70, 71, 72, 73, 74, 66, 67, 68, 69, 75, 76] (by decide +kernel) (by decide +kernel)
set_option maxRecDepth 20000 in
theorem gX5_contradiction_X3_doContradict : GoodIn wsX5_contradiction (wsV RX5 346 RX3 yX3_doContradict wsX3_doContradict) := goodIn_app (goodIn_of _ (by decide +kernel)) ggX5_contradiction_X3_doContradict
theorem dX5_contradiction_0 : decode cX5_contradiction 0 = .ok (.iload_n 1, 1) := by decide +kernel
theorem dX5_contradiction_1 : decode cX5_contradiction 1 = .ok (.ifCond .ge 6, 3) := by decide +kernel
theorem dX5_contradiction_4 : decode cX5_contradiction 4 = .ok (.ldc 41, 2) := by decide +kernel
theorem dX5_contradiction_6 : decode cX5_contradiction 6 = .ok (.ireturn, 1) := by decide +kernel
theorem dX5_contradiction_7 : decode cX5_contradiction 7 = .ok (.iconst 0, 1) := by decide +kernel
theorem dX5_contradiction_8 : decode cX5_contradiction 8 = .ok (.istore_n 2, 1) := by decide +kernel
theorem dX5_contradiction_9 : decode cX5_contradiction 9 = .ok (.iconst 0, 1) := by decide +kernel
theorem dX5_contradiction_10 : decode cX5_contradiction 10 = .ok (.istore_n 3, 1) := by decide +kernel
theorem dX5_contradiction_11 : decode cX5_contradiction 11 = .ok (.iload_n 3, 1) := by decide +kernel
theorem dX5_contradiction_12 : decode cX5_contradiction 12 = .ok (.aload_n 0, 1) := by decide +kernel
theorem dX5_contradiction_13 : decode cX5_contradiction 13 = .ok (.getfield 12, 3) := by decide +kernel
theorem dX5_contradiction_16 : decode cX5_contradiction 16 = .ok (.getfield 86, 3) := by decide +kernel
theorem dX5_contradiction_19 : decode cX5_contradiction 19 = .ok (.if_icmp .ge 61, 3) := by decide +kernel
theorem dX5_contradiction_22 : decode cX5_contradiction 22 = .ok (.iload_n 3, 1) := by decide +kernel
theorem dX5_contradiction_23 : decode cX5_contradiction 23 = .ok (.iconst 1, 1) := by decide +kernel
theorem dX5_contradiction_24 : decode cX5_contradiction 24 = .ok (.iadd, 1) := by decide +kernel
theorem dX5_contradiction_25 : decode cX5_contradiction 25 = .ok (.istore 4, 2) := by decide +kernel
theorem dX5_contradiction_27 : decode cX5_contradiction 27 = .ok (.iload 4, 2) := by decide +kernel
theorem dX5_contradiction_29 : decode cX5_contradiction 29 = .ok (.aload_n 0, 1) := by decide +kernel
theorem dX5_contradiction_30 : decode cX5_contradiction 30 = .ok (.getfield 12, 3) := by decide +kernel
theorem dX5_contradiction_33 : decode cX5_contradiction 33 = .ok (.getfield 86, 3) := by decide +kernel
theorem dX5_contradiction_36 : decode cX5_contradiction 36 = .ok (.if_icmp .ge 38, 3) := by decide +kernel
theorem dX5_contradiction_39 : decode cX5_contradiction 39 = .ok (.aload_n 0, 1) := by decide +kernel
theorem dX5_contradiction_40 : decode cX5_contradiction 40 = .ok (.getfield 12, 3) := by decide +kernel
theorem dX5_contradiction_43 : decode cX5_contradiction 43 = .ok (.iload_n 3, 1) := by decide +kernel
theorem dX5_contradiction_44 : decode cX5_contradiction 44 = .ok (.iload 4, 2) := by decide +kernel
theorem dX5_contradiction_46 : decode cX5_contradiction 46 = .ok (.invokevirtual 346, 3) := by decide +kernel
theorem dX5_contradiction_49 : decode cX5_contradiction 49 = .ok (.ifCond .eq 19, 3) := by decide +kernel
theorem dX5_contradiction_52 : decode cX5_contradiction 52 = .ok (.iload_n 2, 1) := by decide +kernel
theorem dX5_contradiction_53 : decode cX5_contradiction 53 = .ok (.iload_n 1, 1) := by decide +kernel
theorem dX5_contradiction_54 : decode cX5_contradiction 54 = .ok (.if_icmp .ne 11, 3) := by decide +kernel
theorem dX5_contradiction_57 : decode cX5_contradiction 57 = .ok (.bipush 100, 2) := by decide +kernel
theorem dX5_contradiction_59 : decode cX5_contradiction 59 = .ok (.iload_n 3, 1) := by decide +kernel
theorem dX5_contradiction_60 : decode cX5_contradiction 60 = .ok (.imul, 1) := by decide +kernel
theorem dX5_contradiction_61 : decode cX5_contradiction 61 = .ok (.iload 4, 2) := by decide +kernel
theorem dX5_contradiction_63 : decode cX5_contradiction 63 = .ok (.iadd, 1) := by decide +kernel
theorem dX5_contradiction_64 : decode cX5_contradiction 64 = .ok (.ireturn, 1) := by decide +kernel
theorem dX5_contradiction_65 : decode cX5_contradiction 65 = .ok (.iinc 2 1, 3) := by decide +kernel
theorem dX5_contradiction_68 : decode cX5_contradiction 68 = .ok (.iinc 4 1, 3) := by decide +kernel
theorem dX5_contradiction_71 : decode cX5_contradiction 71 = .ok (.goto (-44), 3) := by decide +kernel
theorem dX5_contradiction_74 : decode cX5_contradiction 74 = .ok (.iinc 3 1, 3) := by decide +kernel
theorem dX5_contradiction_77 : decode cX5_contradiction 77 = .ok (.goto (-66), 3) := by decide +kernel
theorem dX5_contradiction_80 : decode cX5_contradiction 80 = .ok (.ldc 105, 2) := by decide +kernel
theorem dX5_contradiction_82 : decode cX5_contradiction 82 = .ok (.ireturn, 1) := by decide +kernel
set_option maxRecDepth 20000 in
theorem ggX5_answerIf_X5_isResult : GoodIn wsX5_answerIf wsX5_isResult := goodIn_r _ [5] (by decide +kernel) (by decide +kernel)
set_option maxRecDepth 20000 in
theorem gX5_answerIf_X5_isResult : GoodIn wsX5_answerIf (va_wsS RX5 306 yX5_isResult wsX5_isResult) := goodIn_app (goodIn_of _ (by decide +kernel)) ggX5_answerIf_X5_isResult
set_option maxRecDepth 20000 in
theorem ggX5_answerIf_X5_isFact : GoodIn wsX5_answerIf wsX5_isFact := goodIn_r _ [8] (by decide +kernel) (by decide +kernel)
set_option maxRecDepth 20000 in
theorem gX5_answerIf_X5_isFact : GoodIn wsX5_answerIf (va_wsS RX5 152 yX5_isFact wsX5_isFact) := goodIn_app (goodIn_of _ (by decide +kernel)) ggX5_answerIf_X5_isFact
set_option maxRecDepth 20000 in
theorem ggX5_answerIf_X5_isValueOf : GoodIn wsX5_answerIf wsX5_isValueOf := goodIn_r _ [11, 12, 13, 4, 14, 15, 16, 17, 18] (by decide +kernel) (by decide +kernel)
set_option maxRecDepth 20000 in
theorem gX5_answerIf_X5_isValueOf : GoodIn wsX5_answerIf (va_wsS RX5 155 yX5_isValueOf wsX5_isValueOf) := goodIn_app (goodIn_of _ (by decide +kernel)) ggX5_answerIf_X5_isValueOf
set_option maxRecDepth 20000 in
theorem ggX5_answerIf_X5_answerSupposing : GoodIn wsX5_answerIf wsX5_answerSupposing := goodIn_r _ [22, 23, 24, 25, 26, 27, 28, 29, 30, 31, 32, 33, 34, 35, 36, 37, 38, 39, 40, 41, 42, 43, 44, 45, 46, 47, 48, 49, 50, 51, 52, 53, 54, 55, 56, 57, 58, 59, 60, 61, 62, 63, 64, 65, 66, 67, 68, 69, 70, 71, 72, 73, 74, 75, 76, 77, 78, 79, 80, 81, 82, 83, 84, 85, 86, 87, 88, 89, 90, 91, 92, 93, 94, 95] (by decide +kernel) (by decide +kernel)
set_option maxRecDepth 20000 in
theorem gX5_answerIf_X5_answerSupposing : GoodIn wsX5_answerIf (wsV RX5 349 RX5 yX5_answerSupposing wsX5_answerSupposing) := goodIn_app (goodIn_of _ (by decide +kernel)) ggX5_answerIf_X5_answerSupposing
theorem dX5_answerIf_0 : decode cX5_answerIf 0 = .ok (.iload_n 1, 1) := by decide +kernel
theorem dX5_answerIf_1 : decode cX5_answerIf 1 = .ok (.invokestatic 306, 3) := by decide +kernel
theorem dX5_answerIf_4 : decode cX5_answerIf 4 = .ok (.ifCond .eq 18, 3) := by decide +kernel
theorem dX5_answerIf_7 : decode cX5_answerIf 7 = .ok (.iload_n 2, 1) := by decide +kernel
theorem dX5_answerIf_8 : decode cX5_answerIf 8 = .ok (.invokestatic 152, 3) := by decide +kernel
theorem dX5_answerIf_11 : decode cX5_answerIf 11 = .ok (.ifCond .eq 11, 3) := by decide +kernel
theorem dX5_answerIf_14 : decode cX5_answerIf 14 = .ok (.iload_n 2, 1) := by decide +kernel
theorem dX5_answerIf_15 : decode cX5_answerIf 15 = .ok (.iload_n 3, 1) := by decide +kernel
theorem dX5_answerIf_16 : decode cX5_answerIf 16 = .ok (.invokestatic 155, 3) := by decide +kernel
theorem dX5_answerIf_19 : decode cX5_answerIf 19 = .ok (.ifCond .ne 6, 3) := by decide +kernel
theorem dX5_answerIf_22 : decode cX5_answerIf 22 = .ok (.ldc 41, 2) := by decide +kernel
theorem dX5_answerIf_24 : decode cX5_answerIf 24 = .ok (.ireturn, 1) := by decide +kernel
theorem dX5_answerIf_25 : decode cX5_answerIf 25 = .ok (.aload_n 0, 1) := by decide +kernel
theorem dX5_answerIf_26 : decode cX5_answerIf 26 = .ok (.iload_n 1, 1) := by decide +kernel
theorem dX5_answerIf_27 : decode cX5_answerIf 27 = .ok (.iload_n 2, 1) := by decide +kernel
theorem dX5_answerIf_28 : decode cX5_answerIf 28 = .ok (.iload_n 3, 1) := by decide +kernel
theorem dX5_answerIf_29 : decode cX5_answerIf 29 = .ok (.invokevirtual 349, 3) := by decide +kernel
theorem dX5_answerIf_32 : decode cX5_answerIf 32 = .ok (.ireturn, 1) := by decide +kernel
set_option maxRecDepth 20000 in
theorem ggX5_answerSupposing_X3_answerFor : GoodIn wsX5_answerSupposing wsX3_answerFor := goodIn_r _ [12, 13, 14, 15, 16, 17, 18, 19, 11, 20, 21, 22, 23, 24, 25, 26, 27, 28, 29, 30, 31, 32, 33, 34, 35, 36, 37, 38, 39, 40, 41, 42, 43, 44, 45, 46, 47, 48, 49, 50, 51, 52, 53, 54, 55, 63, 64, 65, 66, 67, 68, 69, 70, 71, 72, 73] (by decide +kernel) (by decide +kernel)
set_option maxRecDepth 20000 in
theorem gX5_answerSupposing_X3_answerFor : GoodIn wsX5_answerSupposing (wsV RX5 309 RX3 yX3_answerFor wsX3_answerFor) := goodIn_app (goodIn_of _ (by decide +kernel)) ggX5_answerSupposing_X3_answerFor
theorem dX5_answerSupposing_0 : decode cX5_answerSupposing 0 = .ok (.aload_n 0, 1) := by decide +kernel
theorem dX5_answerSupposing_1 : decode cX5_answerSupposing 1 = .ok (.getfield 12, 3) := by decide +kernel
theorem dX5_answerSupposing_4 : decode cX5_answerSupposing 4 = .ok (.getfield 158, 3) := by decide +kernel
theorem dX5_answerSupposing_7 : decode cX5_answerSupposing 7 = .ok (.iconst 0, 1) := by decide +kernel
theorem dX5_answerSupposing_8 : decode cX5_answerSupposing 8 = .ok (.aload_n 0, 1) := by decide +kernel
theorem dX5_answerSupposing_9 : decode cX5_answerSupposing 9 = .ok (.getfield 27, 3) := by decide +kernel
theorem dX5_answerSupposing_12 : decode cX5_answerSupposing 12 = .ok (.iconst 0, 1) := by decide +kernel
theorem dX5_answerSupposing_13 : decode cX5_answerSupposing 13 = .ok (.bipush 7, 2) := by decide +kernel
theorem dX5_answerSupposing_15 : decode cX5_answerSupposing 15 = .ok (.invokestatic 353, 3) := by decide +kernel
theorem dX5_answerSupposing_18 : decode cX5_answerSupposing 18 = .ok (.aload_n 0, 1) := by decide +kernel
theorem dX5_answerSupposing_19 : decode cX5_answerSupposing 19 = .ok (.getfield 27, 3) := by decide +kernel
theorem dX5_answerSupposing_22 : decode cX5_answerSupposing 22 = .ok (.iload_n 2, 1) := by decide +kernel
theorem dX5_answerSupposing_23 : decode cX5_answerSupposing 23 = .ok (.iload_n 3, 1) := by decide +kernel
theorem dX5_answerSupposing_24 : decode cX5_answerSupposing 24 = .ok (.iastore, 1) := by decide +kernel
theorem dX5_answerSupposing_25 : decode cX5_answerSupposing 25 = .ok (.aload_n 0, 1) := by decide +kernel
theorem dX5_answerSupposing_26 : decode cX5_answerSupposing 26 = .ok (.getfield 12, 3) := by decide +kernel
theorem dX5_answerSupposing_29 : decode cX5_answerSupposing 29 = .ok (.iload_n 1, 1) := by decide +kernel
theorem dX5_answerSupposing_30 : decode cX5_answerSupposing 30 = .ok (.aload_n 0, 1) := by decide +kernel
theorem dX5_answerSupposing_31 : decode cX5_answerSupposing 31 = .ok (.getfield 27, 3) := by decide +kernel
theorem dX5_answerSupposing_34 : decode cX5_answerSupposing 34 = .ok (.iconst (-1), 1) := by decide +kernel
theorem dX5_answerSupposing_35 : decode cX5_answerSupposing 35 = .ok (.invokevirtual 309, 3) := by decide +kernel
theorem dX5_answerSupposing_38 : decode cX5_answerSupposing 38 = .ok (.ireturn, 1) := by decide +kernel
set_option maxRecDepth 20000 in
theorem ggX5_nextChange_X5_isResult : GoodIn wsX5_nextChange wsX5_isResult := goodIn_r _ [8] (by decide +kernel) (by decide +kernel)
set_option maxRecDepth 20000 in
theorem gX5_nextChange_X5_isResult : GoodIn wsX5_nextChange (va_wsS RX5 306 yX5_isResult wsX5_isResult) := goodIn_app (goodIn_of _ (by decide +kernel)) ggX5_nextChange_X5_isResult
set_option maxRecDepth 20000 in
theorem ggX5_nextChange_X5_isFact : GoodIn wsX5_nextChange wsX5_isFact := goodIn_r _ [11] (by decide +kernel) (by decide +kernel)
set_option maxRecDepth 20000 in
theorem gX5_nextChange_X5_isFact : GoodIn wsX5_nextChange (va_wsS RX5 152 yX5_isFact wsX5_isFact) := goodIn_app (goodIn_of _ (by decide +kernel)) ggX5_nextChange_X5_isFact
set_option maxRecDepth 20000 in
theorem ggX5_nextChange_X3_answerFor : GoodIn wsX5_nextChange wsX3_answerFor := goodIn_r _ [16, 17, 18, 19, 20, 21, 22, 23, 15, 24, 25, 26, 27, 28, 29, 30, 31, 32, 33, 34, 35, 36, 37, 38, 39, 40, 41, 42, 43, 44, 45, 46, 47, 48, 49, 50, 51, 52, 53, 54, 55, 56, 57, 58, 59, 88, 89, 90, 91, 92, 93, 94, 95, 96, 97, 98] (by decide +kernel) (by decide +kernel)
set_option maxRecDepth 20000 in
theorem gX5_nextChange_X3_answerFor : GoodIn wsX5_nextChange (wsV RX5 309 RX3 yX3_answerFor wsX3_answerFor) := goodIn_app (goodIn_of _ (by decide +kernel)) ggX5_nextChange_X3_answerFor
set_option maxRecDepth 20000 in
theorem ggX5_nextChange_X3_nextBorder : GoodIn wsX5_nextChange wsX3_nextBorder := goodIn_r _ [63, 17, 18, 34, 64, 65, 10, 7, 11, 21, 22, 23, 15, 24, 25, 35, 36, 37, 38, 39, 40, 66, 67, 68, 69, 70, 71, 88, 89, 90, 91, 92, 93, 94, 95, 96, 97, 98] (by decide +kernel) (by decide +kernel)
set_option maxRecDepth 20000 in
theorem gX5_nextChange_X3_nextBorder : GoodIn wsX5_nextChange (wsV RX5 359 RX3 yX3_nextBorder wsX3_nextBorder) := goodIn_app (goodIn_of _ (by decide +kernel)) ggX5_nextChange_X3_nextBorder
set_option maxRecDepth 20000 in
theorem ggX5_nextChange_X5_answerSupposing : GoodIn wsX5_nextChange wsX5_answerSupposing := goodIn_r _ [75, 2, 3, 76, 77, 78, 79, 80, 12, 13, 14, 15, 16, 17, 18, 19, 20, 21, 22, 23, 24, 25, 26, 27, 28, 29, 30, 31, 32, 33, 34, 35, 36, 37, 38, 39, 40, 41, 42, 43, 44, 45, 46, 47, 48, 49, 50, 51, 52, 53, 54, 55, 56, 57, 58, 59, 81, 82, 83, 84, 85, 86, 87, 88, 89, 90, 91, 92, 93, 94, 95, 96, 97, 98] (by decide +kernel) (by decide +kernel)
set_option maxRecDepth 20000 in
theorem gX5_nextChange_X5_answerSupposing : GoodIn wsX5_nextChange (wsV RX5 349 RX5 yX5_answerSupposing wsX5_answerSupposing) := goodIn_app (goodIn_of _ (by decide +kernel)) ggX5_nextChange_X5_answerSupposing
theorem dX5_nextChange_0 : decode cX5_nextChange 0 = .ok (.iload_n 1, 1) := by decide +kernel
theorem dX5_nextChange_1 : decode cX5_nextChange 1 = .ok (.invokestatic 306, 3) := by decide +kernel
theorem dX5_nextChange_4 : decode cX5_nextChange 4 = .ok (.ifCond .eq 10, 3) := by decide +kernel
theorem dX5_nextChange_7 : decode cX5_nextChange 7 = .ok (.iload_n 2, 1) := by decide +kernel
theorem dX5_nextChange_8 : decode cX5_nextChange 8 = .ok (.invokestatic 152, 3) := by decide +kernel
theorem dX5_nextChange_11 : decode cX5_nextChange 11 = .ok (.ifCond .ne 6, 3) := by decide +kernel
theorem dX5_nextChange_14 : decode cX5_nextChange 14 = .ok (.ldc 41, 2) := by decide +kernel
theorem dX5_nextChange_16 : decode cX5_nextChange 16 = .ok (.ireturn, 1) := by decide +kernel
theorem dX5_nextChange_17 : decode cX5_nextChange 17 = .ok (.aload_n 0, 1) := by decide +kernel
theorem dX5_nextChange_18 : decode cX5_nextChange 18 = .ok (.getfield 12, 3) := by decide +kernel
theorem dX5_nextChange_21 : decode cX5_nextChange 21 = .ok (.iload_n 1, 1) := by decide +kernel
theorem dX5_nextChange_22 : decode cX5_nextChange 22 = .ok (.aload_n 0, 1) := by decide +kernel
theorem dX5_nextChange_23 : decode cX5_nextChange 23 = .ok (.getfield 12, 3) := by decide +kernel
theorem dX5_nextChange_26 : decode cX5_nextChange 26 = .ok (.getfield 158, 3) := by decide +kernel
theorem dX5_nextChange_29 : decode cX5_nextChange 29 = .ok (.iconst (-1), 1) := by decide +kernel
theorem dX5_nextChange_30 : decode cX5_nextChange 30 = .ok (.invokevirtual 309, 3) := by decide +kernel
theorem dX5_nextChange_33 : decode cX5_nextChange 33 = .ok (.istore_n 3, 1) := by decide +kernel
theorem dX5_nextChange_34 : decode cX5_nextChange 34 = .ok (.aload_n 0, 1) := by decide +kernel
theorem dX5_nextChange_35 : decode cX5_nextChange 35 = .ok (.getfield 12, 3) := by decide +kernel
theorem dX5_nextChange_38 : decode cX5_nextChange 38 = .ok (.iload_n 1, 1) := by decide +kernel
theorem dX5_nextChange_39 : decode cX5_nextChange 39 = .ok (.iload_n 2, 1) := by decide +kernel
theorem dX5_nextChange_40 : decode cX5_nextChange 40 = .ok (.aload_n 0, 1) := by decide +kernel
theorem dX5_nextChange_41 : decode cX5_nextChange 41 = .ok (.getfield 12, 3) := by decide +kernel
theorem dX5_nextChange_44 : decode cX5_nextChange 44 = .ok (.getfield 158, 3) := by decide +kernel
theorem dX5_nextChange_47 : decode cX5_nextChange 47 = .ok (.iload_n 2, 1) := by decide +kernel
theorem dX5_nextChange_48 : decode cX5_nextChange 48 = .ok (.iaload, 1) := by decide +kernel
theorem dX5_nextChange_49 : decode cX5_nextChange 49 = .ok (.invokevirtual 359, 3) := by decide +kernel
theorem dX5_nextChange_52 : decode cX5_nextChange 52 = .ok (.istore 4, 2) := by decide +kernel
theorem dX5_nextChange_54 : decode cX5_nextChange 54 = .ok (.iconst 0, 1) := by decide +kernel
theorem dX5_nextChange_55 : decode cX5_nextChange 55 = .ok (.istore 5, 2) := by decide +kernel
theorem dX5_nextChange_57 : decode cX5_nextChange 57 = .ok (.iload 4, 2) := by decide +kernel
theorem dX5_nextChange_59 : decode cX5_nextChange 59 = .ok (.ldc 105, 2) := by decide +kernel
theorem dX5_nextChange_61 : decode cX5_nextChange 61 = .ok (.if_icmp .eq 44, 3) := by decide +kernel
theorem dX5_nextChange_64 : decode cX5_nextChange 64 = .ok (.iload 5, 2) := by decide +kernel
theorem dX5_nextChange_66 : decode cX5_nextChange 66 = .ok (.bipush 32, 2) := by decide +kernel
theorem dX5_nextChange_68 : decode cX5_nextChange 68 = .ok (.if_icmp .ge 37, 3) := by decide +kernel
theorem dX5_nextChange_71 : decode cX5_nextChange 71 = .ok (.aload_n 0, 1) := by decide +kernel
theorem dX5_nextChange_72 : decode cX5_nextChange 72 = .ok (.iload_n 1, 1) := by decide +kernel
theorem dX5_nextChange_73 : decode cX5_nextChange 73 = .ok (.iload_n 2, 1) := by decide +kernel
theorem dX5_nextChange_74 : decode cX5_nextChange 74 = .ok (.iload 4, 2) := by decide +kernel
theorem dX5_nextChange_76 : decode cX5_nextChange 76 = .ok (.invokevirtual 349, 3) := by decide +kernel
theorem dX5_nextChange_79 : decode cX5_nextChange 79 = .ok (.iload_n 3, 1) := by decide +kernel
theorem dX5_nextChange_80 : decode cX5_nextChange 80 = .ok (.if_icmp .eq 6, 3) := by decide +kernel
theorem dX5_nextChange_83 : decode cX5_nextChange 83 = .ok (.iload 4, 2) := by decide +kernel
theorem dX5_nextChange_85 : decode cX5_nextChange 85 = .ok (.ireturn, 1) := by decide +kernel
theorem dX5_nextChange_86 : decode cX5_nextChange 86 = .ok (.aload_n 0, 1) := by decide +kernel
theorem dX5_nextChange_87 : decode cX5_nextChange 87 = .ok (.getfield 12, 3) := by decide +kernel
theorem dX5_nextChange_90 : decode cX5_nextChange 90 = .ok (.iload_n 1, 1) := by decide +kernel
theorem dX5_nextChange_91 : decode cX5_nextChange 91 = .ok (.iload_n 2, 1) := by decide +kernel
theorem dX5_nextChange_92 : decode cX5_nextChange 92 = .ok (.iload 4, 2) := by decide +kernel
theorem dX5_nextChange_94 : decode cX5_nextChange 94 = .ok (.invokevirtual 359, 3) := by decide +kernel
theorem dX5_nextChange_97 : decode cX5_nextChange 97 = .ok (.istore 4, 2) := by decide +kernel
theorem dX5_nextChange_99 : decode cX5_nextChange 99 = .ok (.iinc 5 1, 3) := by decide +kernel
theorem dX5_nextChange_102 : decode cX5_nextChange 102 = .ok (.goto (-45), 3) := by decide +kernel
theorem dX5_nextChange_105 : decode cX5_nextChange 105 = .ok (.ldc 105, 2) := by decide +kernel
theorem dX5_nextChange_107 : decode cX5_nextChange 107 = .ok (.ireturn, 1) := by decide +kernel
set_option maxRecDepth 20000 in
theorem ggX5_leastFor_X5_isResult : GoodIn wsX5_leastFor wsX5_isResult := goodIn_r _ [7] (by decide +kernel) (by decide +kernel)
set_option maxRecDepth 20000 in
theorem gX5_leastFor_X5_isResult : GoodIn wsX5_leastFor (va_wsS RX5 306 yX5_isResult wsX5_isResult) := goodIn_app (goodIn_of _ (by decide +kernel)) ggX5_leastFor_X5_isResult
set_option maxRecDepth 20000 in
theorem ggX5_leastFor_X5_isFact : GoodIn wsX5_leastFor wsX5_isFact := goodIn_r _ [10] (by decide +kernel) (by decide +kernel)
set_option maxRecDepth 20000 in
theorem gX5_leastFor_X5_isFact : GoodIn wsX5_leastFor (va_wsS RX5 152 yX5_isFact wsX5_isFact) := goodIn_app (goodIn_of _ (by decide +kernel)) ggX5_leastFor_X5_isFact
set_option maxRecDepth 20000 in
theorem ggX5_leastFor_X5_isNumber : GoodIn wsX5_leastFor wsX5_isNumber := goodIn_r _ [13] (by decide +kernel) (by decide +kernel)
set_option maxRecDepth 20000 in
theorem gX5_leastFor_X5_isNumber : GoodIn wsX5_leastFor (va_wsS RX5 46 yX5_isNumber wsX5_isNumber) := goodIn_app (goodIn_of _ (by decide +kernel)) ggX5_leastFor_X5_isNumber
set_option maxRecDepth 20000 in
theorem ggX5_leastFor_X5_lowestOf : GoodIn wsX5_leastFor wsX5_lowestOf := goodIn_r _ [16] (by decide +kernel) (by decide +kernel)
set_option maxRecDepth 20000 in
theorem gX5_leastFor_X5_lowestOf : GoodIn wsX5_leastFor (va_wsS RX5 362 yX5_lowestOf wsX5_lowestOf) := goodIn_app (goodIn_of _ (by decide +kernel)) ggX5_leastFor_X5_lowestOf
set_option maxRecDepth 20000 in
theorem ggX5_leastFor_X5_answerSupposing : GoodIn wsX5_leastFor wsX5_answerSupposing := goodIn_r _ [20, 3, 21, 22, 23, 24, 25, 26, 27, 28, 29, 30, 31, 32, 33, 34, 35, 36, 37, 38, 39, 40, 41, 42, 43, 44, 45, 46, 47, 48, 49, 50, 51, 52, 53, 54, 55, 56, 57, 58, 59, 60, 61, 62, 63, 64, 65, 66, 67, 68, 69, 70, 71, 72, 73, 74, 87, 88, 89, 90, 91, 92, 93, 94, 95, 96, 97, 98, 99, 100, 101, 102, 103, 104] (by decide +kernel) (by decide +kernel)
set_option maxRecDepth 20000 in
theorem gX5_leastFor_X5_answerSupposing : GoodIn wsX5_leastFor (wsV RX5 349 RX5 yX5_answerSupposing wsX5_answerSupposing) := goodIn_app (goodIn_of _ (by decide +kernel)) ggX5_leastFor_X5_answerSupposing
set_option maxRecDepth 20000 in
theorem ggX5_leastFor_X3_nextBorder : GoodIn wsX5_leastFor wsX3_nextBorder := goodIn_r _ [78, 32, 33, 49, 79, 80, 9, 6, 10, 36, 37, 38, 30, 39, 40, 50, 51, 52, 53, 54, 55, 81, 82, 83, 84, 85, 86, 94, 95, 96, 97, 98, 99, 100, 101, 102, 103, 104] (by decide +kernel) (by decide +kernel)
set_option maxRecDepth 20000 in
theorem gX5_leastFor_X3_nextBorder : GoodIn wsX5_leastFor (wsV RX5 359 RX3 yX3_nextBorder wsX3_nextBorder) := goodIn_app (goodIn_of _ (by decide +kernel)) ggX5_leastFor_X3_nextBorder
theorem dX5_leastFor_0 : decode cX5_leastFor 0 = .ok (.iload_n 1, 1) := by decide +kernel
theorem dX5_leastFor_1 : decode cX5_leastFor 1 = .ok (.invokestatic 306, 3) := by decide +kernel
theorem dX5_leastFor_4 : decode cX5_leastFor 4 = .ok (.ifCond .eq 17, 3) := by decide +kernel
theorem dX5_leastFor_7 : decode cX5_leastFor 7 = .ok (.iload_n 2, 1) := by decide +kernel
theorem dX5_leastFor_8 : decode cX5_leastFor 8 = .ok (.invokestatic 152, 3) := by decide +kernel
theorem dX5_leastFor_11 : decode cX5_leastFor 11 = .ok (.ifCond .eq 10, 3) := by decide +kernel
theorem dX5_leastFor_14 : decode cX5_leastFor 14 = .ok (.iload_n 3, 1) := by decide +kernel
theorem dX5_leastFor_15 : decode cX5_leastFor 15 = .ok (.invokestatic 46, 3) := by decide +kernel
theorem dX5_leastFor_18 : decode cX5_leastFor 18 = .ok (.ifCond .ne 6, 3) := by decide +kernel
theorem dX5_leastFor_21 : decode cX5_leastFor 21 = .ok (.ldc 41, 2) := by decide +kernel
theorem dX5_leastFor_23 : decode cX5_leastFor 23 = .ok (.ireturn, 1) := by decide +kernel
theorem dX5_leastFor_24 : decode cX5_leastFor 24 = .ok (.iload_n 2, 1) := by decide +kernel
theorem dX5_leastFor_25 : decode cX5_leastFor 25 = .ok (.invokestatic 362, 3) := by decide +kernel
theorem dX5_leastFor_28 : decode cX5_leastFor 28 = .ok (.istore 4, 2) := by decide +kernel
theorem dX5_leastFor_30 : decode cX5_leastFor 30 = .ok (.iconst 0, 1) := by decide +kernel
theorem dX5_leastFor_31 : decode cX5_leastFor 31 = .ok (.istore 5, 2) := by decide +kernel
theorem dX5_leastFor_33 : decode cX5_leastFor 33 = .ok (.iload 4, 2) := by decide +kernel
theorem dX5_leastFor_35 : decode cX5_leastFor 35 = .ok (.ldc 105, 2) := by decide +kernel
theorem dX5_leastFor_37 : decode cX5_leastFor 37 = .ok (.if_icmp .eq 44, 3) := by decide +kernel
theorem dX5_leastFor_40 : decode cX5_leastFor 40 = .ok (.iload 5, 2) := by decide +kernel
theorem dX5_leastFor_42 : decode cX5_leastFor 42 = .ok (.bipush 32, 2) := by decide +kernel
theorem dX5_leastFor_44 : decode cX5_leastFor 44 = .ok (.if_icmp .gt 37, 3) := by decide +kernel
theorem dX5_leastFor_47 : decode cX5_leastFor 47 = .ok (.aload_n 0, 1) := by decide +kernel
theorem dX5_leastFor_48 : decode cX5_leastFor 48 = .ok (.iload_n 1, 1) := by decide +kernel
theorem dX5_leastFor_49 : decode cX5_leastFor 49 = .ok (.iload_n 2, 1) := by decide +kernel
theorem dX5_leastFor_50 : decode cX5_leastFor 50 = .ok (.iload 4, 2) := by decide +kernel
theorem dX5_leastFor_52 : decode cX5_leastFor 52 = .ok (.invokevirtual 349, 3) := by decide +kernel
theorem dX5_leastFor_55 : decode cX5_leastFor 55 = .ok (.iload_n 3, 1) := by decide +kernel
theorem dX5_leastFor_56 : decode cX5_leastFor 56 = .ok (.if_icmp .ne 6, 3) := by decide +kernel
theorem dX5_leastFor_59 : decode cX5_leastFor 59 = .ok (.iload 4, 2) := by decide +kernel
theorem dX5_leastFor_61 : decode cX5_leastFor 61 = .ok (.ireturn, 1) := by decide +kernel
theorem dX5_leastFor_62 : decode cX5_leastFor 62 = .ok (.aload_n 0, 1) := by decide +kernel
theorem dX5_leastFor_63 : decode cX5_leastFor 63 = .ok (.getfield 12, 3) := by decide +kernel
theorem dX5_leastFor_66 : decode cX5_leastFor 66 = .ok (.iload_n 1, 1) := by decide +kernel
theorem dX5_leastFor_67 : decode cX5_leastFor 67 = .ok (.iload_n 2, 1) := by decide +kernel
theorem dX5_leastFor_68 : decode cX5_leastFor 68 = .ok (.iload 4, 2) := by decide +kernel
theorem dX5_leastFor_70 : decode cX5_leastFor 70 = .ok (.invokevirtual 359, 3) := by decide +kernel
theorem dX5_leastFor_73 : decode cX5_leastFor 73 = .ok (.istore 4, 2) := by decide +kernel
theorem dX5_leastFor_75 : decode cX5_leastFor 75 = .ok (.iinc 5 1, 3) := by decide +kernel
theorem dX5_leastFor_78 : decode cX5_leastFor 78 = .ok (.goto (-45), 3) := by decide +kernel
theorem dX5_leastFor_81 : decode cX5_leastFor 81 = .ok (.ldc 105, 2) := by decide +kernel
theorem dX5_leastFor_83 : decode cX5_leastFor 83 = .ok (.ireturn, 1) := by decide +kernel
set_option maxRecDepth 20000 in
theorem ggX5_matters_X3_sentenceAt : GoodIn wsX5_matters wsX3_sentenceAt := goodIn_r _ [9, 10, 11, 70, 71, 72, 73] (by decide +kernel) (by decide +kernel)
set_option maxRecDepth 20000 in
theorem gX5_matters_X3_sentenceAt : GoodIn wsX5_matters (wsV RX5 131 RX3 yX3_sentenceAt wsX3_sentenceAt) := goodIn_app (goodIn_of _ (by decide +kernel)) ggX5_matters_X3_sentenceAt
set_option maxRecDepth 20000 in
theorem ggX5_matters_X2_isDefinition : GoodIn wsX5_matters wsX2_isDefinition := goodIn_r _ [16, 17, 65, 66, 67, 68, 69] (by decide +kernel) (by decide +kernel)
set_option maxRecDepth 20000 in
theorem gX5_matters_X2_isDefinition : GoodIn wsX5_matters (wsV RX5 141 RX2 yX2_isDefinition wsX2_isDefinition) := goodIn_app (goodIn_of _ (by decide +kernel)) ggX5_matters_X2_isDefinition
set_option maxRecDepth 20000 in
theorem ggX5_matters_X3_answerFor : GoodIn wsX5_matters wsX3_answerFor := goodIn_r _ [21, 22, 10, 23, 24, 25, 6, 7, 8, 9, 11, 26, 27, 28, 29, 30, 31, 32, 33, 34, 35, 36, 37, 15, 38, 17, 39, 40, 41, 42, 43, 44, 45, 46, 47, 48, 49, 50, 51, 52, 53, 54, 55, 56, 57, 70, 71, 72, 73, 65, 66, 67, 68, 69, 74, 75] (by decide +kernel) (by decide +kernel)
set_option maxRecDepth 20000 in
theorem gX5_matters_X3_answerFor : GoodIn wsX5_matters (wsV RX5 309 RX3 yX3_answerFor wsX3_answerFor) := goodIn_app (goodIn_of _ (by decide +kernel)) ggX5_matters_X3_answerFor
theorem dX5_matters_0 : decode cX5_matters 0 = .ok (.aload_n 0, 1) := by decide +kernel
theorem dX5_matters_1 : decode cX5_matters 1 = .ok (.getfield 12, 3) := by decide +kernel
theorem dX5_matters_4 : decode cX5_matters 4 = .ok (.iload_n 1, 1) := by decide +kernel
theorem dX5_matters_5 : decode cX5_matters 5 = .ok (.invokevirtual 131, 3) := by decide +kernel
theorem dX5_matters_8 : decode cX5_matters 8 = .ok (.astore_n 2, 1) := by decide +kernel
theorem dX5_matters_9 : decode cX5_matters 9 = .ok (.aload_n 2, 1) := by decide +kernel
theorem dX5_matters_10 : decode cX5_matters 10 = .ok (.ifnonnull 6, 3) := by decide +kernel
theorem dX5_matters_13 : decode cX5_matters 13 = .ok (.ldc 140, 2) := by decide +kernel
theorem dX5_matters_15 : decode cX5_matters 15 = .ok (.ireturn, 1) := by decide +kernel
theorem dX5_matters_16 : decode cX5_matters 16 = .ok (.aload_n 2, 1) := by decide +kernel
theorem dX5_matters_17 : decode cX5_matters 17 = .ok (.invokevirtual 141, 3) := by decide +kernel
theorem dX5_matters_20 : decode cX5_matters 20 = .ok (.ifCond .eq 5, 3) := by decide +kernel
theorem dX5_matters_23 : decode cX5_matters 23 = .ok (.iconst 0, 1) := by decide +kernel
theorem dX5_matters_24 : decode cX5_matters 24 = .ok (.ireturn, 1) := by decide +kernel
theorem dX5_matters_25 : decode cX5_matters 25 = .ok (.aload_n 0, 1) := by decide +kernel
theorem dX5_matters_26 : decode cX5_matters 26 = .ok (.getfield 12, 3) := by decide +kernel
theorem dX5_matters_29 : decode cX5_matters 29 = .ok (.aload_n 2, 1) := by decide +kernel
theorem dX5_matters_30 : decode cX5_matters 30 = .ok (.getfield 144, 3) := by decide +kernel
theorem dX5_matters_33 : decode cX5_matters 33 = .ok (.aload_n 0, 1) := by decide +kernel
theorem dX5_matters_34 : decode cX5_matters 34 = .ok (.getfield 12, 3) := by decide +kernel
theorem dX5_matters_37 : decode cX5_matters 37 = .ok (.getfield 158, 3) := by decide +kernel
theorem dX5_matters_40 : decode cX5_matters 40 = .ok (.iconst (-1), 1) := by decide +kernel
theorem dX5_matters_41 : decode cX5_matters 41 = .ok (.invokevirtual 309, 3) := by decide +kernel
theorem dX5_matters_44 : decode cX5_matters 44 = .ok (.istore_n 3, 1) := by decide +kernel
theorem dX5_matters_45 : decode cX5_matters 45 = .ok (.aload_n 0, 1) := by decide +kernel
theorem dX5_matters_46 : decode cX5_matters 46 = .ok (.getfield 12, 3) := by decide +kernel
theorem dX5_matters_49 : decode cX5_matters 49 = .ok (.aload_n 2, 1) := by decide +kernel
theorem dX5_matters_50 : decode cX5_matters 50 = .ok (.getfield 144, 3) := by decide +kernel
theorem dX5_matters_53 : decode cX5_matters 53 = .ok (.aload_n 0, 1) := by decide +kernel
theorem dX5_matters_54 : decode cX5_matters 54 = .ok (.getfield 12, 3) := by decide +kernel
theorem dX5_matters_57 : decode cX5_matters 57 = .ok (.getfield 158, 3) := by decide +kernel
theorem dX5_matters_60 : decode cX5_matters 60 = .ok (.iload_n 1, 1) := by decide +kernel
theorem dX5_matters_61 : decode cX5_matters 61 = .ok (.invokevirtual 309, 3) := by decide +kernel
theorem dX5_matters_64 : decode cX5_matters 64 = .ok (.istore 4, 2) := by decide +kernel
theorem dX5_matters_66 : decode cX5_matters 66 = .ok (.iload_n 3, 1) := by decide +kernel
theorem dX5_matters_67 : decode cX5_matters 67 = .ok (.iload 4, 2) := by decide +kernel
theorem dX5_matters_69 : decode cX5_matters 69 = .ok (.if_icmp .ne 7, 3) := by decide +kernel
theorem dX5_matters_72 : decode cX5_matters 72 = .ok (.iconst 0, 1) := by decide +kernel
theorem dX5_matters_73 : decode cX5_matters 73 = .ok (.goto 4, 3) := by decide +kernel
theorem dX5_matters_76 : decode cX5_matters 76 = .ok (.iconst 1, 1) := by decide +kernel
theorem dX5_matters_77 : decode cX5_matters 77 = .ok (.ireturn, 1) := by decide +kernel
theorem dX5_isNumber_0 : decode cX5_isNumber 0 = .ok (.iload_n 0, 1) := by decide +kernel
theorem dX5_isNumber_1 : decode cX5_isNumber 1 = .ok (.sipush (-9999), 3) := by decide +kernel
theorem dX5_isNumber_4 : decode cX5_isNumber 4 = .ok (.if_icmp .lt 14, 3) := by decide +kernel
theorem dX5_isNumber_7 : decode cX5_isNumber 7 = .ok (.iload_n 0, 1) := by decide +kernel
theorem dX5_isNumber_8 : decode cX5_isNumber 8 = .ok (.sipush 9999, 3) := by decide +kernel
theorem dX5_isNumber_11 : decode cX5_isNumber 11 = .ok (.if_icmp .gt 7, 3) := by decide +kernel
theorem dX5_isNumber_14 : decode cX5_isNumber 14 = .ok (.iconst 1, 1) := by decide +kernel
theorem dX5_isNumber_15 : decode cX5_isNumber 15 = .ok (.goto 4, 3) := by decide +kernel
theorem dX5_isNumber_18 : decode cX5_isNumber 18 = .ok (.iconst 0, 1) := by decide +kernel
theorem dX5_isNumber_19 : decode cX5_isNumber 19 = .ok (.ireturn, 1) := by decide +kernel
theorem dX5_isFact_0 : decode cX5_isFact 0 = .ok (.iload_n 0, 1) := by decide +kernel
theorem dX5_isFact_1 : decode cX5_isFact 1 = .ok (.ifCond .lt 13, 3) := by decide +kernel
theorem dX5_isFact_4 : decode cX5_isFact 4 = .ok (.iload_n 0, 1) := by decide +kernel
theorem dX5_isFact_5 : decode cX5_isFact 5 = .ok (.bipush 7, 2) := by decide +kernel
theorem dX5_isFact_7 : decode cX5_isFact 7 = .ok (.if_icmp .ge 7, 3) := by decide +kernel
theorem dX5_isFact_10 : decode cX5_isFact 10 = .ok (.iconst 1, 1) := by decide +kernel
theorem dX5_isFact_11 : decode cX5_isFact 11 = .ok (.goto 4, 3) := by decide +kernel
theorem dX5_isFact_14 : decode cX5_isFact 14 = .ok (.iconst 0, 1) := by decide +kernel
theorem dX5_isFact_15 : decode cX5_isFact 15 = .ok (.ireturn, 1) := by decide +kernel
theorem dX5_isResult_0 : decode cX5_isResult 0 = .ok (.iload_n 0, 1) := by decide +kernel
theorem dX5_isResult_1 : decode cX5_isResult 1 = .ok (.ifCond .lt 12, 3) := by decide +kernel
theorem dX5_isResult_4 : decode cX5_isResult 4 = .ok (.iload_n 0, 1) := by decide +kernel
theorem dX5_isResult_5 : decode cX5_isResult 5 = .ok (.iconst 4, 1) := by decide +kernel
theorem dX5_isResult_6 : decode cX5_isResult 6 = .ok (.if_icmp .ge 7, 3) := by decide +kernel
theorem dX5_isResult_9 : decode cX5_isResult 9 = .ok (.iconst 1, 1) := by decide +kernel
theorem dX5_isResult_10 : decode cX5_isResult 10 = .ok (.goto 4, 3) := by decide +kernel
theorem dX5_isResult_13 : decode cX5_isResult 13 = .ok (.iconst 0, 1) := by decide +kernel
theorem dX5_isResult_14 : decode cX5_isResult 14 = .ok (.ireturn, 1) := by decide +kernel
theorem dX5_isDefinable_0 : decode cX5_isDefinable 0 = .ok (.iload_n 0, 1) := by decide +kernel
theorem dX5_isDefinable_1 : decode cX5_isDefinable 1 = .ok (.ifCond .lt 13, 3) := by decide +kernel
theorem dX5_isDefinable_4 : decode cX5_isDefinable 4 = .ok (.iload_n 0, 1) := by decide +kernel
theorem dX5_isDefinable_5 : decode cX5_isDefinable 5 = .ok (.bipush 6, 2) := by decide +kernel
theorem dX5_isDefinable_7 : decode cX5_isDefinable 7 = .ok (.if_icmp .ge 7, 3) := by decide +kernel
theorem dX5_isDefinable_10 : decode cX5_isDefinable 10 = .ok (.iconst 1, 1) := by decide +kernel
theorem dX5_isDefinable_11 : decode cX5_isDefinable 11 = .ok (.goto 4, 3) := by decide +kernel
theorem dX5_isDefinable_14 : decode cX5_isDefinable 14 = .ok (.iconst 0, 1) := by decide +kernel
theorem dX5_isDefinable_15 : decode cX5_isDefinable 15 = .ok (.ireturn, 1) := by decide +kernel
theorem dX5_lowestOf_0 : decode cX5_lowestOf 0 = .ok (.iload_n 0, 1) := by decide +kernel
theorem dX5_lowestOf_1 : decode cX5_lowestOf 1 = .ok (.iconst 4, 1) := by decide +kernel
theorem dX5_lowestOf_2 : decode cX5_lowestOf 2 = .ok (.if_icmp .ge 9, 3) := by decide +kernel
theorem dX5_lowestOf_5 : decode cX5_lowestOf 5 = .ok (.sipush (-9999), 3) := by decide +kernel
theorem dX5_lowestOf_8 : decode cX5_lowestOf 8 = .ok (.goto 4, 3) := by decide +kernel
theorem dX5_lowestOf_11 : decode cX5_lowestOf 11 = .ok (.iconst 0, 1) := by decide +kernel
theorem dX5_lowestOf_12 : decode cX5_lowestOf 12 = .ok (.ireturn, 1) := by decide +kernel
theorem dX5_highestOf_0 : decode cX5_highestOf 0 = .ok (.iload_n 0, 1) := by decide +kernel
theorem dX5_highestOf_1 : decode cX5_highestOf 1 = .ok (.iconst 4, 1) := by decide +kernel
theorem dX5_highestOf_2 : decode cX5_highestOf 2 = .ok (.if_icmp .ge 9, 3) := by decide +kernel
theorem dX5_highestOf_5 : decode cX5_highestOf 5 = .ok (.sipush 9999, 3) := by decide +kernel
theorem dX5_highestOf_8 : decode cX5_highestOf 8 = .ok (.goto 6, 3) := by decide +kernel
theorem dX5_highestOf_11 : decode cX5_highestOf 11 = .ok (.ldc_w 293, 3) := by decide +kernel
theorem dX5_highestOf_14 : decode cX5_highestOf 14 = .ok (.ireturn, 1) := by decide +kernel
set_option maxRecDepth 20000 in
theorem ggX5_isValueOf_X5_lowestOf : GoodIn wsX5_isValueOf wsX5_lowestOf := goodIn_r _ [4] (by decide +kernel) (by decide +kernel)
set_option maxRecDepth 20000 in
theorem gX5_isValueOf_X5_lowestOf : GoodIn wsX5_isValueOf (va_wsS RX5 362 yX5_lowestOf wsX5_lowestOf) := goodIn_app (goodIn_of _ (by decide +kernel)) ggX5_isValueOf_X5_lowestOf
set_option maxRecDepth 20000 in
theorem ggX5_isValueOf_X5_highestOf : GoodIn wsX5_isValueOf wsX5_highestOf := goodIn_r _ [7, 8] (by decide +kernel) (by decide +kernel)
set_option maxRecDepth 20000 in
theorem gX5_isValueOf_X5_highestOf : GoodIn wsX5_isValueOf (va_wsS RX5 365 yX5_highestOf wsX5_highestOf) := goodIn_app (goodIn_of _ (by decide +kernel)) ggX5_isValueOf_X5_highestOf
theorem dX5_isValueOf_0 : decode cX5_isValueOf 0 = .ok (.iload_n 1, 1) := by decide +kernel
theorem dX5_isValueOf_1 : decode cX5_isValueOf 1 = .ok (.iload_n 0, 1) := by decide +kernel
theorem dX5_isValueOf_2 : decode cX5_isValueOf 2 = .ok (.invokestatic 362, 3) := by decide +kernel
theorem dX5_isValueOf_5 : decode cX5_isValueOf 5 = .ok (.if_icmp .lt 15, 3) := by decide +kernel
theorem dX5_isValueOf_8 : decode cX5_isValueOf 8 = .ok (.iload_n 1, 1) := by decide +kernel
theorem dX5_isValueOf_9 : decode cX5_isValueOf 9 = .ok (.iload_n 0, 1) := by decide +kernel
theorem dX5_isValueOf_10 : decode cX5_isValueOf 10 = .ok (.invokestatic 365, 3) := by decide +kernel
theorem dX5_isValueOf_13 : decode cX5_isValueOf 13 = .ok (.if_icmp .gt 7, 3) := by decide +kernel
theorem dX5_isValueOf_16 : decode cX5_isValueOf 16 = .ok (.iconst 1, 1) := by decide +kernel
theorem dX5_isValueOf_17 : decode cX5_isValueOf 17 = .ok (.goto 4, 3) := by decide +kernel
theorem dX5_isValueOf_20 : decode cX5_isValueOf 20 = .ok (.iconst 0, 1) := by decide +kernel
theorem dX5_isValueOf_21 : decode cX5_isValueOf 21 = .ok (.ireturn, 1) := by decide +kernel
theorem dX5_isBetween_0 : decode cX5_isBetween 0 = .ok (.iload_n 1, 1) := by decide +kernel
theorem dX5_isBetween_1 : decode cX5_isBetween 1 = .ok (.iload_n 0, 1) := by decide +kernel
theorem dX5_isBetween_2 : decode cX5_isBetween 2 = .ok (.if_icmp .lt 12, 3) := by decide +kernel
theorem dX5_isBetween_5 : decode cX5_isBetween 5 = .ok (.iload_n 1, 1) := by decide +kernel
theorem dX5_isBetween_6 : decode cX5_isBetween 6 = .ok (.iload_n 2, 1) := by decide +kernel
theorem dX5_isBetween_7 : decode cX5_isBetween 7 = .ok (.if_icmp .gt 7, 3) := by decide +kernel
theorem dX5_isBetween_10 : decode cX5_isBetween 10 = .ok (.iconst 1, 1) := by decide +kernel
theorem dX5_isBetween_11 : decode cX5_isBetween 11 = .ok (.goto 4, 3) := by decide +kernel
theorem dX5_isBetween_14 : decode cX5_isBetween 14 = .ok (.iconst 0, 1) := by decide +kernel
theorem dX5_isBetween_15 : decode cX5_isBetween 15 = .ok (.ireturn, 1) := by decide +kernel
theorem dX5_isBitSet_0 : decode cX5_isBitSet 0 = .ok (.iload_n 0, 1) := by decide +kernel
theorem dX5_isBitSet_1 : decode cX5_isBitSet 1 = .ok (.iload_n 1, 1) := by decide +kernel
theorem dX5_isBitSet_2 : decode cX5_isBitSet 2 = .ok (.ishr, 1) := by decide +kernel
theorem dX5_isBitSet_3 : decode cX5_isBitSet 3 = .ok (.iconst 1, 1) := by decide +kernel
theorem dX5_isBitSet_4 : decode cX5_isBitSet 4 = .ok (.iand, 1) := by decide +kernel
theorem dX5_isBitSet_5 : decode cX5_isBitSet 5 = .ok (.iconst 1, 1) := by decide +kernel
theorem dX5_isBitSet_6 : decode cX5_isBitSet 6 = .ok (.if_icmp .ne 7, 3) := by decide +kernel
theorem dX5_isBitSet_9 : decode cX5_isBitSet 9 = .ok (.iconst 1, 1) := by decide +kernel
theorem dX5_isBitSet_10 : decode cX5_isBitSet 10 = .ok (.goto 4, 3) := by decide +kernel
theorem dX5_isBitSet_13 : decode cX5_isBitSet 13 = .ok (.iconst 0, 1) := by decide +kernel
theorem dX5_isBitSet_14 : decode cX5_isBitSet 14 = .ok (.ireturn, 1) := by decide +kernel
set_option maxRecDepth 20000 in
theorem ggJ5_init_d00df_J2_newBytesFor_77867 : GoodIn wsJ5_init_d00df wsJ2_newBytesFor_77867 := goodIn_r _ [11, 5, 12, 13, 10, 14, 15] (by decide +kernel) (by decide +kernel)
set_option maxRecDepth 20000 in
theorem gJ5_init_d00df_J2_newBytesFor_77867 : GoodIn wsJ5_init_d00df (va_wsS RJ5 26 yJ2_newBytesFor_77867 wsJ2_newBytesFor_77867) := goodIn_app (goodIn_of _ (by decide +kernel)) ggJ5_init_d00df_J2_newBytesFor_77867
theorem dJ5_init_d00df_0 : decode cJ5_init_d00df 0 = .ok (.aload_n 0, 1) := by decide +kernel
theorem dJ5_init_d00df_1 : decode cJ5_init_d00df 1 = .ok (.invokespecial 3, 3) := by decide +kernel
theorem dJ5_init_d00df_4 : decode cJ5_init_d00df 4 = .ok (.getstatic 18, 3) := by decide +kernel
theorem dJ5_init_d00df_7 : decode cJ5_init_d00df 7 = .ok (.ifCond .eq 18, 3) := by decide +kernel
theorem dJ5_init_d00df_10 : decode cJ5_init_d00df 10 = .ok (.aload_n 0, 1) := by decide +kernel
theorem dJ5_init_d00df_11 : decode cJ5_init_d00df 11 = .ok (.iload_n 1, 1) := by decide +kernel
theorem dJ5_init_d00df_12 : decode cJ5_init_d00df 12 = .ok (.newarray .byte, 2) := by decide +kernel
theorem dJ5_init_d00df_14 : decode cJ5_init_d00df 14 = .ok (.putfield 15, 3) := by decide +kernel
theorem dJ5_init_d00df_17 : decode cJ5_init_d00df 17 = .ok (.aload_n 0, 1) := by decide +kernel
theorem dJ5_init_d00df_18 : decode cJ5_init_d00df 18 = .ok (.iconst 0, 1) := by decide +kernel
theorem dJ5_init_d00df_19 : decode cJ5_init_d00df 19 = .ok (.putfield 22, 3) := by decide +kernel
theorem dJ5_init_d00df_22 : decode cJ5_init_d00df 22 = .ok (.goto 16, 3) := by decide +kernel
theorem dJ5_init_d00df_25 : decode cJ5_init_d00df 25 = .ok (.aload_n 0, 1) := by decide +kernel
theorem dJ5_init_d00df_26 : decode cJ5_init_d00df 26 = .ok (.iload_n 1, 1) := by decide +kernel
theorem dJ5_init_d00df_27 : decode cJ5_init_d00df 27 = .ok (.invokestatic 26, 3) := by decide +kernel
theorem dJ5_init_d00df_30 : decode cJ5_init_d00df 30 = .ok (.putfield 15, 3) := by decide +kernel
theorem dJ5_init_d00df_33 : decode cJ5_init_d00df 33 = .ok (.aload_n 0, 1) := by decide +kernel
theorem dJ5_init_d00df_34 : decode cJ5_init_d00df 34 = .ok (.iconst 1, 1) := by decide +kernel
theorem dJ5_init_d00df_35 : decode cJ5_init_d00df 35 = .ok (.putfield 22, 3) := by decide +kernel
theorem dJ5_init_d00df_38 : decode cJ5_init_d00df 38 = .ok (.return_, 1) := by decide +kernel
theorem dJ5_length_8abf5_0 : decode cJ5_length_8abf5 0 = .ok (.aload_n 0, 1) := by decide +kernel
theorem dJ5_length_8abf5_1 : decode cJ5_length_8abf5 1 = .ok (.getfield 79, 3) := by decide +kernel
theorem dJ5_length_8abf5_4 : decode cJ5_length_8abf5 4 = .ok (.ireturn, 1) := by decide +kernel
set_option maxRecDepth 20000 in
theorem ggJ5_ensureCapacityInternal_d00df_J5_newCapacity_0f7a4 : GoodIn wsJ5_ensureCapacityInternal_d00df wsJ5_newCapacity_0f7a4 := goodIn_r _ [8, 1, 2, 9, 10, 11, 12, 13, 14, 15, 16, 17, 18, 19, 20, 21, 40, 41, 42, 43] (by decide +kernel) (by decide +kernel)
set_option maxRecDepth 20000 in
theorem gJ5_ensureCapacityInternal_d00df_J5_newCapacity_0f7a4_u104J4 : GoodIn wsJ5_ensureCapacityInternal_d00df (va_wsU RJ5 104 RJ4 "java/lang/AbstractStringBuilder" ⟨"java/lang/AbstractStringBuilder", "newCapacity", "(I)I"⟩ yJ5_newCapacity_0f7a4 wsJ5_newCapacity_0f7a4) := goodIn_app (goodIn_of _ (by decide +kernel)) ggJ5_ensureCapacityInternal_d00df_J5_newCapacity_0f7a4
set_option maxRecDepth 20000 in
theorem ggJ5_ensureCapacityInternal_d00df_J7_copyOf_9075b : GoodIn wsJ5_ensureCapacityInternal_d00df wsJ7_copyOf_9075b := goodIn_r _ [25, 26, 27, 28, 29, 30, 31, 32, 33, 34, 16, 35, 36, 37, 38, 39] (by decide +kernel) (by decide +kernel)
set_option maxRecDepth 20000 in
theorem gJ5_ensureCapacityInternal_d00df_J7_copyOf_9075b : GoodIn wsJ5_ensureCapacityInternal_d00df (va_wsS RJ5 108 yJ7_copyOf_9075b wsJ7_copyOf_9075b) := goodIn_app (goodIn_of _ (by decide +kernel)) ggJ5_ensureCapacityInternal_d00df_J7_copyOf_9075b
theorem dJ5_ensureCapacityInternal_d00df_0 : decode cJ5_ensureCapacityInternal_d00df 0 = .ok (.aload_n 0, 1) := by decide +kernel
theorem dJ5_ensureCapacityInternal_d00df_1 : decode cJ5_ensureCapacityInternal_d00df 1 = .ok (.getfield 15, 3) := by decide +kernel
theorem dJ5_ensureCapacityInternal_d00df_4 : decode cJ5_ensureCapacityInternal_d00df 4 = .ok (.arraylength, 1) := by decide +kernel
theorem dJ5_ensureCapacityInternal_d00df_5 : decode cJ5_ensureCapacityInternal_d00df 5 = .ok (.aload_n 0, 1) := by decide +kernel
theorem dJ5_ensureCapacityInternal_d00df_6 : decode cJ5_ensureCapacityInternal_d00df 6 = .ok (.getfield 22, 3) := by decide +kernel
theorem dJ5_ensureCapacityInternal_d00df_9 : decode cJ5_ensureCapacityInternal_d00df 9 = .ok (.ishr, 1) := by decide +kernel
theorem dJ5_ensureCapacityInternal_d00df_10 : decode cJ5_ensureCapacityInternal_d00df 10 = .ok (.istore_n 2, 1) := by decide +kernel
theorem dJ5_ensureCapacityInternal_d00df_11 : decode cJ5_ensureCapacityInternal_d00df 11 = .ok (.iload_n 1, 1) := by decide +kernel
theorem dJ5_ensureCapacityInternal_d00df_12 : decode cJ5_ensureCapacityInternal_d00df 12 = .ok (.iload_n 2, 1) := by decide +kernel
theorem dJ5_ensureCapacityInternal_d00df_13 : decode cJ5_ensureCapacityInternal_d00df 13 = .ok (.isub, 1) := by decide +kernel
theorem dJ5_ensureCapacityInternal_d00df_14 : decode cJ5_ensureCapacityInternal_d00df 14 = .ok (.ifCond .le 24, 3) := by decide +kernel
theorem dJ5_ensureCapacityInternal_d00df_17 : decode cJ5_ensureCapacityInternal_d00df 17 = .ok (.aload_n 0, 1) := by decide +kernel
theorem dJ5_ensureCapacityInternal_d00df_18 : decode cJ5_ensureCapacityInternal_d00df 18 = .ok (.aload_n 0, 1) := by decide +kernel
theorem dJ5_ensureCapacityInternal_d00df_19 : decode cJ5_ensureCapacityInternal_d00df 19 = .ok (.getfield 15, 3) := by decide +kernel
theorem dJ5_ensureCapacityInternal_d00df_22 : decode cJ5_ensureCapacityInternal_d00df 22 = .ok (.aload_n 0, 1) := by decide +kernel
theorem dJ5_ensureCapacityInternal_d00df_23 : decode cJ5_ensureCapacityInternal_d00df 23 = .ok (.iload_n 1, 1) := by decide +kernel
theorem dJ5_ensureCapacityInternal_d00df_24 : decode cJ5_ensureCapacityInternal_d00df 24 = .ok (.invokevirtual 104, 3) := by decide +kernel
theorem dJ5_ensureCapacityInternal_d00df_27 : decode cJ5_ensureCapacityInternal_d00df 27 = .ok (.aload_n 0, 1) := by decide +kernel
theorem dJ5_ensureCapacityInternal_d00df_28 : decode cJ5_ensureCapacityInternal_d00df 28 = .ok (.getfield 22, 3) := by decide +kernel
theorem dJ5_ensureCapacityInternal_d00df_31 : decode cJ5_ensureCapacityInternal_d00df 31 = .ok (.ishl, 1) := by decide +kernel
theorem dJ5_ensureCapacityInternal_d00df_32 : decode cJ5_ensureCapacityInternal_d00df 32 = .ok (.invokestatic 108, 3) := by decide +kernel
theorem dJ5_ensureCapacityInternal_d00df_35 : decode cJ5_ensureCapacityInternal_d00df 35 = .ok (.putfield 15, 3) := by decide +kernel
theorem dJ5_ensureCapacityInternal_d00df_38 : decode cJ5_ensureCapacityInternal_d00df 38 = .ok (.return_, 1) := by decide +kernel
set_option maxRecDepth 20000 in
theorem ggJ5_newCapacity_0f7a4_J8_newLength_cabcc : GoodIn wsJ5_newCapacity_0f7a4 wsJ8_newLength_cabcc := goodIn_r _ [7, 8, 9, 10, 11, 12, 13, 14, 6, 15] (by decide +kernel) (by decide +kernel)
set_option maxRecDepth 20000 in
theorem gJ5_newCapacity_0f7a4_J8_newLength_cabcc : GoodIn wsJ5_newCapacity_0f7a4 (va_wsS RJ5 114 yJ8_newLength_cabcc wsJ8_newLength_cabcc) := goodIn_app (goodIn_of _ (by decide +kernel)) ggJ5_newCapacity_0f7a4_J8_newLength_cabcc
theorem dJ5_newCapacity_0f7a4_0 : decode cJ5_newCapacity_0f7a4 0 = .ok (.aload_n 0, 1) := by decide +kernel
theorem dJ5_newCapacity_0f7a4_1 : decode cJ5_newCapacity_0f7a4 1 = .ok (.getfield 15, 3) := by decide +kernel
theorem dJ5_newCapacity_0f7a4_4 : decode cJ5_newCapacity_0f7a4 4 = .ok (.arraylength, 1) := by decide +kernel
theorem dJ5_newCapacity_0f7a4_5 : decode cJ5_newCapacity_0f7a4 5 = .ok (.istore_n 2, 1) := by decide +kernel
theorem dJ5_newCapacity_0f7a4_6 : decode cJ5_newCapacity_0f7a4 6 = .ok (.iload_n 1, 1) := by decide +kernel
theorem dJ5_newCapacity_0f7a4_7 : decode cJ5_newCapacity_0f7a4 7 = .ok (.aload_n 0, 1) := by decide +kernel
theorem dJ5_newCapacity_0f7a4_8 : decode cJ5_newCapacity_0f7a4 8 = .ok (.getfield 22, 3) := by decide +kernel
theorem dJ5_newCapacity_0f7a4_11 : decode cJ5_newCapacity_0f7a4 11 = .ok (.ishl, 1) := by decide +kernel
theorem dJ5_newCapacity_0f7a4_12 : decode cJ5_newCapacity_0f7a4 12 = .ok (.istore_n 3, 1) := by decide +kernel
theorem dJ5_newCapacity_0f7a4_13 : decode cJ5_newCapacity_0f7a4 13 = .ok (.iload_n 3, 1) := by decide +kernel
theorem dJ5_newCapacity_0f7a4_14 : decode cJ5_newCapacity_0f7a4 14 = .ok (.iload_n 2, 1) := by decide +kernel
theorem dJ5_newCapacity_0f7a4_15 : decode cJ5_newCapacity_0f7a4 15 = .ok (.isub, 1) := by decide +kernel
theorem dJ5_newCapacity_0f7a4_16 : decode cJ5_newCapacity_0f7a4 16 = .ok (.istore 4, 2) := by decide +kernel
theorem dJ5_newCapacity_0f7a4_18 : decode cJ5_newCapacity_0f7a4 18 = .ok (.iload_n 2, 1) := by decide +kernel
theorem dJ5_newCapacity_0f7a4_19 : decode cJ5_newCapacity_0f7a4 19 = .ok (.iload 4, 2) := by decide +kernel
theorem dJ5_newCapacity_0f7a4_21 : decode cJ5_newCapacity_0f7a4 21 = .ok (.iload_n 2, 1) := by decide +kernel
theorem dJ5_newCapacity_0f7a4_22 : decode cJ5_newCapacity_0f7a4 22 = .ok (.iconst 2, 1) := by decide +kernel
theorem dJ5_newCapacity_0f7a4_23 : decode cJ5_newCapacity_0f7a4 23 = .ok (.aload_n 0, 1) := by decide +kernel
theorem dJ5_newCapacity_0f7a4_24 : decode cJ5_newCapacity_0f7a4 24 = .ok (.getfield 22, 3) := by decide +kernel
theorem dJ5_newCapacity_0f7a4_27 : decode cJ5_newCapacity_0f7a4 27 = .ok (.ishl, 1) := by decide +kernel
theorem dJ5_newCapacity_0f7a4_28 : decode cJ5_newCapacity_0f7a4 28 = .ok (.iadd, 1) := by decide +kernel
theorem dJ5_newCapacity_0f7a4_29 : decode cJ5_newCapacity_0f7a4 29 = .ok (.invokestatic 114, 3) := by decide +kernel
theorem dJ5_newCapacity_0f7a4_32 : decode cJ5_newCapacity_0f7a4 32 = .ok (.istore 5, 2) := by decide +kernel
theorem dJ5_newCapacity_0f7a4_34 : decode cJ5_newCapacity_0f7a4 34 = .ok (.iload 5, 2) := by decide +kernel
theorem dJ5_newCapacity_0f7a4_36 : decode cJ5_newCapacity_0f7a4 36 = .ok (.ldc 39, 2) := by decide +kernel
theorem dJ5_newCapacity_0f7a4_38 : decode cJ5_newCapacity_0f7a4 38 = .ok (.if_icmp .ne 13, 3) := by decide +kernel
theorem dJ5_newCapacity_0f7a4_41 : decode cJ5_newCapacity_0f7a4 41 = .ok (.new 120, 3) := by decide +kernel
theorem dJ5_newCapacity_0f7a4_44 : decode cJ5_newCapacity_0f7a4 44 = .ok (.dup, 1) := by decide +kernel
theorem dJ5_newCapacity_0f7a4_45 : decode cJ5_newCapacity_0f7a4 45 = .ok (.ldc 122, 2) := by decide +kernel
theorem dJ5_newCapacity_0f7a4_47 : decode cJ5_newCapacity_0f7a4 47 = .ok (.invokespecial 124, 3) := by decide +kernel
theorem dJ5_newCapacity_0f7a4_50 : decode cJ5_newCapacity_0f7a4 50 = .ok (.athrow, 1) := by decide +kernel
theorem dJ5_newCapacity_0f7a4_51 : decode cJ5_newCapacity_0f7a4 51 = .ok (.iload 5, 2) := by decide +kernel
theorem dJ5_newCapacity_0f7a4_53 : decode cJ5_newCapacity_0f7a4 53 = .ok (.aload_n 0, 1) := by decide +kernel
theorem dJ5_newCapacity_0f7a4_54 : decode cJ5_newCapacity_0f7a4 54 = .ok (.getfield 22, 3) := by decide +kernel
theorem dJ5_newCapacity_0f7a4_57 : decode cJ5_newCapacity_0f7a4 57 = .ok (.ishr, 1) := by decide +kernel
theorem dJ5_newCapacity_0f7a4_58 : decode cJ5_newCapacity_0f7a4 58 = .ok (.ireturn, 1) := by decide +kernel
set_option maxRecDepth 20000 in
theorem ggJ5_inflate_da8c8_J5_isLatin1_aae02 : GoodIn wsJ5_inflate_da8c8 wsJ5_isLatin1_aae02 := goodIn_r _ [9, 10, 3, 48, 49, 50, 51] (by decide +kernel) (by decide +kernel)
set_option maxRecDepth 20000 in
theorem gJ5_inflate_da8c8_J5_isLatin1_aae02_u83J4 : GoodIn wsJ5_inflate_da8c8 (va_wsU RJ5 83 RJ4 "java/lang/AbstractStringBuilder" ⟨"java/lang/AbstractStringBuilder", "isLatin1", "()Z"⟩ yJ5_isLatin1_aae02 wsJ5_isLatin1_aae02) := goodIn_app (goodIn_of _ (by decide +kernel)) ggJ5_inflate_da8c8_J5_isLatin1_aae02
set_option maxRecDepth 20000 in
theorem ggJ5_inflate_da8c8_J2_newBytesFor_77867 : GoodIn wsJ5_inflate_da8c8 wsJ2_newBytesFor_77867 := goodIn_r _ [14, 15, 16, 17, 13, 18, 19] (by decide +kernel) (by decide +kernel)
set_option maxRecDepth 20000 in
theorem gJ5_inflate_da8c8_J2_newBytesFor_77867 : GoodIn wsJ5_inflate_da8c8 (va_wsS RJ5 26 yJ2_newBytesFor_77867 wsJ2_newBytesFor_77867) := goodIn_app (goodIn_of _ (by decide +kernel)) ggJ5_inflate_da8c8_J2_newBytesFor_77867
set_option maxRecDepth 20000 in
theorem ggJ5_inflate_da8c8_J1_inflate_0e8fd : GoodIn wsJ5_inflate_da8c8 wsJ1_inflate_0e8fd := goodIn_r _ [23, 24, 25, 13, 26, 27, 28, 29, 30, 31, 32, 33, 34, 35, 36, 37, 38, 39, 40, 41, 42, 43, 44, 45, 46, 47] (by decide +kernel) (by decide +kernel)
set_option maxRecDepth 20000 in
theorem gJ5_inflate_da8c8_J1_inflate_0e8fd : GoodIn wsJ5_inflate_da8c8 (va_wsS RJ5 125 yJ1_inflate_0e8fd wsJ1_inflate_0e8fd) := goodIn_app (goodIn_of _ (by decide +kernel)) ggJ5_inflate_da8c8_J1_inflate_0e8fd
theorem dJ5_inflate_da8c8_0 : decode cJ5_inflate_da8c8 0 = .ok (.aload_n 0, 1) := by decide +kernel
theorem dJ5_inflate_da8c8_1 : decode cJ5_inflate_da8c8 1 = .ok (.invokevirtual 83, 3) := by decide +kernel
theorem dJ5_inflate_da8c8_4 : decode cJ5_inflate_da8c8 4 = .ok (.ifCond .ne 4, 3) := by decide +kernel
theorem dJ5_inflate_da8c8_7 : decode cJ5_inflate_da8c8 7 = .ok (.return_, 1) := by decide +kernel
theorem dJ5_inflate_da8c8_8 : decode cJ5_inflate_da8c8 8 = .ok (.aload_n 0, 1) := by decide +kernel
theorem dJ5_inflate_da8c8_9 : decode cJ5_inflate_da8c8 9 = .ok (.getfield 15, 3) := by decide +kernel
theorem dJ5_inflate_da8c8_12 : decode cJ5_inflate_da8c8 12 = .ok (.arraylength, 1) := by decide +kernel
theorem dJ5_inflate_da8c8_13 : decode cJ5_inflate_da8c8 13 = .ok (.invokestatic 26, 3) := by decide +kernel
theorem dJ5_inflate_da8c8_16 : decode cJ5_inflate_da8c8 16 = .ok (.astore_n 1, 1) := by decide +kernel
theorem dJ5_inflate_da8c8_17 : decode cJ5_inflate_da8c8 17 = .ok (.aload_n 0, 1) := by decide +kernel
theorem dJ5_inflate_da8c8_18 : decode cJ5_inflate_da8c8 18 = .ok (.getfield 15, 3) := by decide +kernel
theorem dJ5_inflate_da8c8_21 : decode cJ5_inflate_da8c8 21 = .ok (.iconst 0, 1) := by decide +kernel
theorem dJ5_inflate_da8c8_22 : decode cJ5_inflate_da8c8 22 = .ok (.aload_n 1, 1) := by decide +kernel
theorem dJ5_inflate_da8c8_23 : decode cJ5_inflate_da8c8 23 = .ok (.iconst 0, 1) := by decide +kernel
theorem dJ5_inflate_da8c8_24 : decode cJ5_inflate_da8c8 24 = .ok (.aload_n 0, 1) := by decide +kernel
theorem dJ5_inflate_da8c8_25 : decode cJ5_inflate_da8c8 25 = .ok (.getfield 79, 3) := by decide +kernel
theorem dJ5_inflate_da8c8_28 : decode cJ5_inflate_da8c8 28 = .ok (.invokestatic 125, 3) := by decide +kernel
theorem dJ5_inflate_da8c8_31 : decode cJ5_inflate_da8c8 31 = .ok (.aload_n 0, 1) := by decide +kernel
theorem dJ5_inflate_da8c8_32 : decode cJ5_inflate_da8c8 32 = .ok (.aload_n 1, 1) := by decide +kernel
theorem dJ5_inflate_da8c8_33 : decode cJ5_inflate_da8c8 33 = .ok (.putfield 15, 3) := by decide +kernel
theorem dJ5_inflate_da8c8_36 : decode cJ5_inflate_da8c8 36 = .ok (.aload_n 0, 1) := by decide +kernel
theorem dJ5_inflate_da8c8_37 : decode cJ5_inflate_da8c8 37 = .ok (.iconst 1, 1) := by decide +kernel
theorem dJ5_inflate_da8c8_38 : decode cJ5_inflate_da8c8 38 = .ok (.putfield 22, 3) := by decide +kernel
theorem dJ5_inflate_da8c8_41 : decode cJ5_inflate_da8c8 41 = .ok (.return_, 1) := by decide +kernel
set_option maxRecDepth 20000 in
theorem ggJ5_setLength_d00df_J5_ensureCapacityInternal_d00df : GoodIn wsJ5_setLength_d00df wsJ5_ensureCapacityInternal_d00df := goodIn_r _ [9, 2, 10, 11, 12, 13, 14, 8, 15, 16, 17, 18, 19, 20, 21, 22, 23, 24, 25, 26, 27, 28, 29, 30, 31, 32, 33, 34, 35, 36, 37, 38, 39, 40, 41, 42, 43, 44, 45, 46, 68, 69, 70, 71] (by decide +kernel) (by decide +kernel)
set_option maxRecDepth 20000 in
theorem gJ5_setLength_d00df_J5_ensureCapacityInternal_d00df_u100J4 : GoodIn wsJ5_setLength_d00df (va_wsU RJ5 100 RJ4 "java/lang/AbstractStringBuilder" ⟨"java/lang/AbstractStringBuilder", "ensureCapacityInternal", "(I)V"⟩ yJ5_ensureCapacityInternal_d00df wsJ5_ensureCapacityInternal_d00df) := goodIn_app (goodIn_of _ (by decide +kernel)) ggJ5_setLength_d00df_J5_ensureCapacityInternal_d00df
set_option maxRecDepth 20000 in
theorem ggJ5_setLength_d00df_J5_isLatin1_aae02 : GoodIn wsJ5_setLength_d00df wsJ5_isLatin1_aae02 := goodIn_r _ [51, 52, 10, 68, 69, 70, 71] (by decide +kernel) (by decide +kernel)
set_option maxRecDepth 20000 in
theorem gJ5_setLength_d00df_J5_isLatin1_aae02_u83J4 : GoodIn wsJ5_setLength_d00df (va_wsU RJ5 83 RJ4 "java/lang/AbstractStringBuilder" ⟨"java/lang/AbstractStringBuilder", "isLatin1", "()Z"⟩ yJ5_isLatin1_aae02 wsJ5_isLatin1_aae02) := goodIn_app (goodIn_of _ (by decide +kernel)) ggJ5_setLength_d00df_J5_isLatin1_aae02
set_option maxRecDepth 20000 in
theorem ggJ5_setLength_d00df_J1_fillNull_b72d1 : GoodIn wsJ5_setLength_d00df wsJ1_fillNull_b72d1 := goodIn_r _ [56, 57, 58, 31, 59, 60, 61, 62] (by decide +kernel) (by decide +kernel)
set_option maxRecDepth 20000 in
theorem gJ5_setLength_d00df_J1_fillNull_b72d1 : GoodIn wsJ5_setLength_d00df (va_wsS RJ5 133 yJ1_fillNull_b72d1 wsJ1_fillNull_b72d1) := goodIn_app (goodIn_of _ (by decide +kernel)) ggJ5_setLength_d00df_J1_fillNull_b72d1
set_option maxRecDepth 20000 in
theorem ggJ5_setLength_d00df_J2_fillNull_b72d1 : GoodIn wsJ5_setLength_d00df wsJ2_fillNull_b72d1 := goodIn_r _ [66, 67, 58, 31, 59, 60, 61, 62] (by decide +kernel) (by decide +kernel)
set_option maxRecDepth 20000 in
theorem gJ5_setLength_d00df_J2_fillNull_b72d1 : GoodIn wsJ5_setLength_d00df (va_wsS RJ5 137 yJ2_fillNull_b72d1 wsJ2_fillNull_b72d1) := goodIn_app (goodIn_of _ (by decide +kernel)) ggJ5_setLength_d00df_J2_fillNull_b72d1
theorem dJ5_setLength_d00df_0 : decode cJ5_setLength_d00df 0 = .ok (.iload_n 1, 1) := by decide +kernel
theorem dJ5_setLength_d00df_1 : decode cJ5_setLength_d00df 1 = .ok (.ifCond .ge 12, 3) := by decide +kernel
theorem dJ5_setLength_d00df_4 : decode cJ5_setLength_d00df 4 = .ok (.new 129, 3) := by decide +kernel
theorem dJ5_setLength_d00df_7 : decode cJ5_setLength_d00df 7 = .ok (.dup, 1) := by decide +kernel
theorem dJ5_setLength_d00df_8 : decode cJ5_setLength_d00df 8 = .ok (.iload_n 1, 1) := by decide +kernel
theorem dJ5_setLength_d00df_9 : decode cJ5_setLength_d00df 9 = .ok (.invokespecial 131, 3) := by decide +kernel
theorem dJ5_setLength_d00df_12 : decode cJ5_setLength_d00df 12 = .ok (.athrow, 1) := by decide +kernel
theorem dJ5_setLength_d00df_13 : decode cJ5_setLength_d00df 13 = .ok (.aload_n 0, 1) := by decide +kernel
theorem dJ5_setLength_d00df_14 : decode cJ5_setLength_d00df 14 = .ok (.iload_n 1, 1) := by decide +kernel
theorem dJ5_setLength_d00df_15 : decode cJ5_setLength_d00df 15 = .ok (.invokevirtual 100, 3) := by decide +kernel
theorem dJ5_setLength_d00df_18 : decode cJ5_setLength_d00df 18 = .ok (.aload_n 0, 1) := by decide +kernel
theorem dJ5_setLength_d00df_19 : decode cJ5_setLength_d00df 19 = .ok (.getfield 79, 3) := by decide +kernel
theorem dJ5_setLength_d00df_22 : decode cJ5_setLength_d00df 22 = .ok (.iload_n 1, 1) := by decide +kernel
theorem dJ5_setLength_d00df_23 : decode cJ5_setLength_d00df 23 = .ok (.if_icmp .ge 40, 3) := by decide +kernel
theorem dJ5_setLength_d00df_26 : decode cJ5_setLength_d00df 26 = .ok (.aload_n 0, 1) := by decide +kernel
theorem dJ5_setLength_d00df_27 : decode cJ5_setLength_d00df 27 = .ok (.invokevirtual 83, 3) := by decide +kernel
theorem dJ5_setLength_d00df_30 : decode cJ5_setLength_d00df 30 = .ok (.ifCond .eq 18, 3) := by decide +kernel
theorem dJ5_setLength_d00df_33 : decode cJ5_setLength_d00df 33 = .ok (.aload_n 0, 1) := by decide +kernel
theorem dJ5_setLength_d00df_34 : decode cJ5_setLength_d00df 34 = .ok (.getfield 15, 3) := by decide +kernel
theorem dJ5_setLength_d00df_37 : decode cJ5_setLength_d00df 37 = .ok (.aload_n 0, 1) := by decide +kernel
theorem dJ5_setLength_d00df_38 : decode cJ5_setLength_d00df 38 = .ok (.getfield 79, 3) := by decide +kernel
theorem dJ5_setLength_d00df_41 : decode cJ5_setLength_d00df 41 = .ok (.iload_n 1, 1) := by decide +kernel
theorem dJ5_setLength_d00df_42 : decode cJ5_setLength_d00df 42 = .ok (.invokestatic 133, 3) := by decide +kernel
theorem dJ5_setLength_d00df_45 : decode cJ5_setLength_d00df 45 = .ok (.goto 31, 3) := by decide +kernel
theorem dJ5_setLength_d00df_48 : decode cJ5_setLength_d00df 48 = .ok (.aload_n 0, 1) := by decide +kernel
theorem dJ5_setLength_d00df_49 : decode cJ5_setLength_d00df 49 = .ok (.getfield 15, 3) := by decide +kernel
theorem dJ5_setLength_d00df_52 : decode cJ5_setLength_d00df 52 = .ok (.aload_n 0, 1) := by decide +kernel
theorem dJ5_setLength_d00df_53 : decode cJ5_setLength_d00df 53 = .ok (.getfield 79, 3) := by decide +kernel
theorem dJ5_setLength_d00df_56 : decode cJ5_setLength_d00df 56 = .ok (.iload_n 1, 1) := by decide +kernel
theorem dJ5_setLength_d00df_57 : decode cJ5_setLength_d00df 57 = .ok (.invokestatic 137, 3) := by decide +kernel
theorem dJ5_setLength_d00df_60 : decode cJ5_setLength_d00df 60 = .ok (.goto 16, 3) := by decide +kernel
theorem dJ5_setLength_d00df_63 : decode cJ5_setLength_d00df 63 = .ok (.aload_n 0, 1) := by decide +kernel
theorem dJ5_setLength_d00df_64 : decode cJ5_setLength_d00df 64 = .ok (.getfield 79, 3) := by decide +kernel
theorem dJ5_setLength_d00df_67 : decode cJ5_setLength_d00df 67 = .ok (.iload_n 1, 1) := by decide +kernel
theorem dJ5_setLength_d00df_68 : decode cJ5_setLength_d00df 68 = .ok (.if_icmp .le 8, 3) := by decide +kernel
theorem dJ5_setLength_d00df_71 : decode cJ5_setLength_d00df 71 = .ok (.aload_n 0, 1) := by decide +kernel
theorem dJ5_setLength_d00df_72 : decode cJ5_setLength_d00df 72 = .ok (.iconst 1, 1) := by decide +kernel
theorem dJ5_setLength_d00df_73 : decode cJ5_setLength_d00df 73 = .ok (.putfield 73, 3) := by decide +kernel
theorem dJ5_setLength_d00df_76 : decode cJ5_setLength_d00df 76 = .ok (.aload_n 0, 1) := by decide +kernel
theorem dJ5_setLength_d00df_77 : decode cJ5_setLength_d00df 77 = .ok (.iload_n 1, 1) := by decide +kernel
theorem dJ5_setLength_d00df_78 : decode cJ5_setLength_d00df 78 = .ok (.putfield 79, 3) := by decide +kernel
theorem dJ5_setLength_d00df_81 : decode cJ5_setLength_d00df 81 = .ok (.return_, 1) := by decide +kernel
set_option maxRecDepth 20000 in
theorem ggJ5_append_cf1ce_J5_appendNull_278bc : GoodIn wsJ5_append_cf1ce wsJ5_appendNull_278bc := goodIn_r _ [7, 1, 8, 9, 10, 11, 12, 6, 13, 14, 15, 16, 17, 18, 19, 20, 21, 22, 23, 24, 25, 26, 27, 28, 29, 30, 31, 32, 33, 34, 35, 36, 37, 38, 39, 40, 41, 42, 43, 44, 45, 46, 47, 48, 49, 50, 51, 52, 53, 54, 55, 56, 57, 58, 59, 60, 61, 62, 63, 64, 65, 66, 67, 68, 69, 70, 71, 72, 73, 74, 75, 76, 77, 78, 79, 80, 81, 138, 139, 140, 141] (by decide +kernel) (by decide +kernel)
set_option maxRecDepth 20000 in
theorem gJ5_append_cf1ce_J5_appendNull_278bc_u204J4 : GoodIn wsJ5_append_cf1ce (va_wsU RJ5 204 RJ4 "java/lang/AbstractStringBuilder" ⟨"java/lang/AbstractStringBuilder", "appendNull", "()Ljava/lang/AbstractStringBuilder;"⟩ yJ5_appendNull_278bc wsJ5_appendNull_278bc) := goodIn_app (goodIn_of _ (by decide +kernel)) ggJ5_append_cf1ce_J5_appendNull_278bc
set_option maxRecDepth 20000 in
theorem ggJ5_append_cf1ce_J0_length_8abf5 : GoodIn wsJ5_append_cf1ce wsJ0_length_8abf5 := goodIn_r _ [85, 86, 87, 88, 89, 70, 90, 91, 92, 142, 143, 144, 145] (by decide +kernel) (by decide +kernel)
set_option maxRecDepth 20000 in
theorem gJ5_append_cf1ce_J0_length_8abf5 : GoodIn wsJ5_append_cf1ce (wsV RJ5 32 RJ0 yJ0_length_8abf5 wsJ0_length_8abf5) := goodIn_app (goodIn_of _ (by decide +kernel)) ggJ5_append_cf1ce_J0_length_8abf5
set_option maxRecDepth 20000 in
theorem ggJ5_append_cf1ce_J5_ensureCapacityInternal_d00df : GoodIn wsJ5_append_cf1ce wsJ5_ensureCapacityInternal_d00df := goodIn_r _ [13, 8, 14, 15, 16, 17, 18, 6, 19, 20, 21, 22, 23, 24, 25, 26, 27, 28, 29, 30, 31, 32, 33, 34, 35, 36, 37, 38, 39, 40, 41, 42, 43, 44, 45, 46, 47, 48, 49, 50, 138, 139, 140, 141] (by decide +kernel) (by decide +kernel)
set_option maxRecDepth 20000 in
theorem gJ5_append_cf1ce_J5_ensureCapacityInternal_d00df_u100J4 : GoodIn wsJ5_append_cf1ce (va_wsU RJ5 100 RJ4 "java/lang/AbstractStringBuilder" ⟨"java/lang/AbstractStringBuilder", "ensureCapacityInternal", "(I)V"⟩ yJ5_ensureCapacityInternal_d00df wsJ5_ensureCapacityInternal_d00df) := goodIn_app (goodIn_of _ (by decide +kernel)) ggJ5_append_cf1ce_J5_ensureCapacityInternal_d00df
set_option maxRecDepth 20000 in
theorem ggJ5_append_cf1ce_J5_putStringAt_47b60 : GoodIn wsJ5_append_cf1ce wsJ5_putStringAt_47b60 := goodIn_r _ [97, 8, 14, 98, 99, 100, 101, 6, 102, 56, 103, 88, 89, 70, 90, 91, 92, 104, 105, 106, 107, 108, 1, 51, 52, 53, 54, 55, 109, 110, 59, 111, 43, 112, 113, 114, 115, 116, 117, 118, 119, 120, 121, 122, 123, 124, 125, 65, 66, 67, 126, 127, 128, 72, 129, 130, 75, 131, 77, 78, 79, 61, 80, 81, 132, 133, 134, 135, 86, 136, 48, 49, 50, 87, 137, 138, 139, 140, 141, 142, 143, 144, 145] (by decide +kernel) (by decide +kernel)
set_option maxRecDepth 20000 in
theorem gJ5_append_cf1ce_J5_putStringAt_47b60_u208J4 : GoodIn wsJ5_append_cf1ce (va_wsU RJ5 208 RJ4 "java/lang/AbstractStringBuilder" ⟨"java/lang/AbstractStringBuilder", "putStringAt", "(ILjava/lang/String;)V"⟩ yJ5_putStringAt_47b60 wsJ5_putStringAt_47b60) := goodIn_app (goodIn_of _ (by decide +kernel)) ggJ5_append_cf1ce_J5_putStringAt_47b60
theorem dJ5_append_cf1ce_0 : decode cJ5_append_cf1ce 0 = .ok (.aload_n 1, 1) := by decide +kernel
theorem dJ5_append_cf1ce_1 : decode cJ5_append_cf1ce 1 = .ok (.ifnonnull 8, 3) := by decide +kernel
theorem dJ5_append_cf1ce_4 : decode cJ5_append_cf1ce 4 = .ok (.aload_n 0, 1) := by decide +kernel
theorem dJ5_append_cf1ce_5 : decode cJ5_append_cf1ce 5 = .ok (.invokevirtual 204, 3) := by decide +kernel
theorem dJ5_append_cf1ce_8 : decode cJ5_append_cf1ce 8 = .ok (.areturn, 1) := by decide +kernel
theorem dJ5_append_cf1ce_9 : decode cJ5_append_cf1ce 9 = .ok (.aload_n 1, 1) := by decide +kernel
theorem dJ5_append_cf1ce_10 : decode cJ5_append_cf1ce 10 = .ok (.invokevirtual 32, 3) := by decide +kernel
theorem dJ5_append_cf1ce_13 : decode cJ5_append_cf1ce 13 = .ok (.istore_n 2, 1) := by decide +kernel
theorem dJ5_append_cf1ce_14 : decode cJ5_append_cf1ce 14 = .ok (.aload_n 0, 1) := by decide +kernel
theorem dJ5_append_cf1ce_15 : decode cJ5_append_cf1ce 15 = .ok (.aload_n 0, 1) := by decide +kernel
theorem dJ5_append_cf1ce_16 : decode cJ5_append_cf1ce 16 = .ok (.getfield 79, 3) := by decide +kernel
theorem dJ5_append_cf1ce_19 : decode cJ5_append_cf1ce 19 = .ok (.iload_n 2, 1) := by decide +kernel
theorem dJ5_append_cf1ce_20 : decode cJ5_append_cf1ce 20 = .ok (.iadd, 1) := by decide +kernel
theorem dJ5_append_cf1ce_21 : decode cJ5_append_cf1ce 21 = .ok (.invokevirtual 100, 3) := by decide +kernel
theorem dJ5_append_cf1ce_24 : decode cJ5_append_cf1ce 24 = .ok (.aload_n 0, 1) := by decide +kernel
theorem dJ5_append_cf1ce_25 : decode cJ5_append_cf1ce 25 = .ok (.aload_n 0, 1) := by decide +kernel
theorem dJ5_append_cf1ce_26 : decode cJ5_append_cf1ce 26 = .ok (.getfield 79, 3) := by decide +kernel
theorem dJ5_append_cf1ce_29 : decode cJ5_append_cf1ce 29 = .ok (.aload_n 1, 1) := by decide +kernel
theorem dJ5_append_cf1ce_30 : decode cJ5_append_cf1ce 30 = .ok (.invokevirtual 208, 3) := by decide +kernel
theorem dJ5_append_cf1ce_33 : decode cJ5_append_cf1ce 33 = .ok (.aload_n 0, 1) := by decide +kernel
theorem dJ5_append_cf1ce_34 : decode cJ5_append_cf1ce 34 = .ok (.dup, 1) := by decide +kernel
theorem dJ5_append_cf1ce_35 : decode cJ5_append_cf1ce 35 = .ok (.getfield 79, 3) := by decide +kernel
theorem dJ5_append_cf1ce_38 : decode cJ5_append_cf1ce 38 = .ok (.iload_n 2, 1) := by decide +kernel
theorem dJ5_append_cf1ce_39 : decode cJ5_append_cf1ce 39 = .ok (.iadd, 1) := by decide +kernel
