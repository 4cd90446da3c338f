theorem dX0_init_0 : decode cX0_init 0 = .ok (.aload_n 0, 1) := by decide +kernel
theorem dX0_init_1 : decode cX0_init 1 = .ok (.invokespecial 3, 3) := by decide +kernel
theorem dX0_init_4 : decode cX0_init 4 = .ok (.aload_n 0, 1) := by decide +kernel
theorem dX0_init_5 : decode cX0_init 5 = .ok (.new 9, 3) := by decide +kernel
theorem dX0_init_8 : decode cX0_init 8 = .ok (.dup, 1) := by decide +kernel
theorem dX0_init_9 : decode cX0_init 9 = .ok (.invokespecial 11, 3) := by decide +kernel
theorem dX0_init_12 : decode cX0_init 12 = .ok (.putfield 12, 3) := by decide +kernel
theorem dX0_init_15 : decode cX0_init 15 = .ok (.return_, 1) := by decide +kernel
set_option maxRecDepth 20000 in
theorem ggX0_firstError_X0_begin : GoodIn wsX0_firstError wsX0_begin := goodIn_r _ [10, 11, 12, 13, 14, 4, 15, 16, 17, 18, 19, 20, 21, 22, 23, 24, 25, 26, 27, 28, 110, 111, 112, 113, 114, 115, 116, 117, 118, 119, 120] (by decide +kernel) (by decide +kernel)
set_option maxRecDepth 20000 in
theorem gX0_firstError_X0_begin : GoodIn wsX0_firstError (wsV RX0 18 RX0 yX0_begin wsX0_begin) := goodIn_app (goodIn_of _ (by decide +kernel)) ggX0_firstError_X0_begin
set_option maxRecDepth 20000 in
theorem ggX0_firstError_X0_placeAfter : GoodIn wsX0_firstError wsX0_placeAfter := goodIn_r _ [32, 4, 33, 34, 35, 9, 36, 15, 11, 37, 24, 38, 39, 40, 41, 42, 43, 44, 45, 46, 13, 47, 48, 49, 50, 51, 52, 53, 54, 55, 56, 57, 58, 59, 60, 61, 62, 63, 64, 65, 14, 66, 67, 68, 19, 69, 21, 70, 71, 72, 73, 74, 75, 76, 77, 78, 79, 22, 80, 81, 82, 83, 84, 85, 86, 87, 88, 89, 90, 12, 91, 92, 93, 94, 95, 96, 97, 98, 99, 100, 101, 102, 110, 111, 112, 113, 114, 115, 116, 117, 118, 119, 120] (by decide +kernel) (by decide +kernel)
set_option maxRecDepth 20000 in
theorem gX0_firstError_X0_placeAfter : GoodIn wsX0_firstError (wsV RX0 34 RX0 yX0_placeAfter wsX0_placeAfter) := goodIn_app (goodIn_of _ (by decide +kernel)) ggX0_firstError_X0_placeAfter
set_option maxRecDepth 20000 in
theorem ggX0_firstError_X0_isComplete : GoodIn wsX0_firstError wsX0_isComplete := goodIn_r _ [106, 4, 15, 110, 111, 112, 113, 114, 115, 116, 117, 118] (by decide +kernel) (by decide +kernel)
set_option maxRecDepth 20000 in
theorem gX0_firstError_X0_isComplete : GoodIn wsX0_firstError (wsV RX0 41 RX0 yX0_isComplete wsX0_isComplete) := goodIn_app (goodIn_of _ (by decide +kernel)) ggX0_firstError_X0_isComplete
theorem dX0_firstError_0 : decode cX0_firstError 0 = .ok (.aload_n 0, 1) := by decide +kernel
theorem dX0_firstError_1 : decode cX0_firstError 1 = .ok (.invokevirtual 18, 3) := by decide +kernel
theorem dX0_firstError_4 : decode cX0_firstError 4 = .ok (.iconst 0, 1) := by decide +kernel
theorem dX0_firstError_5 : decode cX0_firstError 5 = .ok (.istore_n 2, 1) := by decide +kernel
theorem dX0_firstError_6 : decode cX0_firstError 6 = .ok (.iload_n 2, 1) := by decide +kernel
theorem dX0_firstError_7 : decode cX0_firstError 7 = .ok (.aload_n 1, 1) := by decide +kernel
theorem dX0_firstError_8 : decode cX0_firstError 8 = .ok (.getfield 21, 3) := by decide +kernel
theorem dX0_firstError_11 : decode cX0_firstError 11 = .ok (.if_icmp .ge 39, 3) := by decide +kernel
theorem dX0_firstError_14 : decode cX0_firstError 14 = .ok (.aload_n 0, 1) := by decide +kernel
theorem dX0_firstError_15 : decode cX0_firstError 15 = .ok (.aload_n 0, 1) := by decide +kernel
theorem dX0_firstError_16 : decode cX0_firstError 16 = .ok (.aload_n 1, 1) := by decide +kernel
theorem dX0_firstError_17 : decode cX0_firstError 17 = .ok (.getfield 27, 3) := by decide +kernel
theorem dX0_firstError_20 : decode cX0_firstError 20 = .ok (.iload_n 2, 1) := by decide +kernel
theorem dX0_firstError_21 : decode cX0_firstError 21 = .ok (.iaload, 1) := by decide +kernel
theorem dX0_firstError_22 : decode cX0_firstError 22 = .ok (.aload_n 1, 1) := by decide +kernel
theorem dX0_firstError_23 : decode cX0_firstError 23 = .ok (.getfield 31, 3) := by decide +kernel
theorem dX0_firstError_26 : decode cX0_firstError 26 = .ok (.iload_n 2, 1) := by decide +kernel
theorem dX0_firstError_27 : decode cX0_firstError 27 = .ok (.iaload, 1) := by decide +kernel
theorem dX0_firstError_28 : decode cX0_firstError 28 = .ok (.invokevirtual 34, 3) := by decide +kernel
theorem dX0_firstError_31 : decode cX0_firstError 31 = .ok (.putfield 38, 3) := by decide +kernel
theorem dX0_firstError_34 : decode cX0_firstError 34 = .ok (.aload_n 0, 1) := by decide +kernel
theorem dX0_firstError_35 : decode cX0_firstError 35 = .ok (.getfield 38, 3) := by decide +kernel
theorem dX0_firstError_38 : decode cX0_firstError 38 = .ok (.iconst (-1), 1) := by decide +kernel
theorem dX0_firstError_39 : decode cX0_firstError 39 = .ok (.if_icmp .ne 5, 3) := by decide +kernel
theorem dX0_firstError_42 : decode cX0_firstError 42 = .ok (.iload_n 2, 1) := by decide +kernel
theorem dX0_firstError_43 : decode cX0_firstError 43 = .ok (.ireturn, 1) := by decide +kernel
theorem dX0_firstError_44 : decode cX0_firstError 44 = .ok (.iinc 2 1, 3) := by decide +kernel
theorem dX0_firstError_47 : decode cX0_firstError 47 = .ok (.goto (-41), 3) := by decide +kernel
theorem dX0_firstError_50 : decode cX0_firstError 50 = .ok (.aload_n 0, 1) := by decide +kernel
theorem dX0_firstError_51 : decode cX0_firstError 51 = .ok (.invokevirtual 41, 3) := by decide +kernel
theorem dX0_firstError_54 : decode cX0_firstError 54 = .ok (.ifCond .eq 8, 3) := by decide +kernel
theorem dX0_firstError_57 : decode cX0_firstError 57 = .ok (.ldc 45, 2) := by decide +kernel
theorem dX0_firstError_59 : decode cX0_firstError 59 = .ok (.goto 7, 3) := by decide +kernel
theorem dX0_firstError_62 : decode cX0_firstError 62 = .ok (.aload_n 1, 1) := by decide +kernel
theorem dX0_firstError_63 : decode cX0_firstError 63 = .ok (.getfield 21, 3) := by decide +kernel
theorem dX0_firstError_66 : decode cX0_firstError 66 = .ok (.ireturn, 1) := by decide +kernel
set_option maxRecDepth 20000 in
theorem ggX0_begin_X1_widen : GoodIn wsX0_begin wsX1_widen := goodIn_r _ [11, 12, 13, 14, 15, 16, 17, 18, 19, 29, 30] (by decide +kernel) (by decide +kernel)
set_option maxRecDepth 20000 in
theorem gX0_begin_X1_widen : GoodIn wsX0_begin (wsV RX0 55 RX1 yX1_widen wsX1_widen) := goodIn_app (goodIn_of _ (by decide +kernel)) ggX0_begin_X1_widen
theorem dX0_begin_0 : decode cX0_begin 0 = .ok (.aload_n 0, 1) := by decide +kernel
theorem dX0_begin_1 : decode cX0_begin 1 = .ok (.iconst 0, 1) := by decide +kernel
theorem dX0_begin_2 : decode cX0_begin 2 = .ok (.putfield 46, 3) := by decide +kernel
theorem dX0_begin_5 : decode cX0_begin 5 = .ok (.aload_n 0, 1) := by decide +kernel
theorem dX0_begin_6 : decode cX0_begin 6 = .ok (.iconst 0, 1) := by decide +kernel
theorem dX0_begin_7 : decode cX0_begin 7 = .ok (.putfield 49, 3) := by decide +kernel
theorem dX0_begin_10 : decode cX0_begin 10 = .ok (.aload_n 0, 1) := by decide +kernel
theorem dX0_begin_11 : decode cX0_begin 11 = .ok (.iconst 0, 1) := by decide +kernel
theorem dX0_begin_12 : decode cX0_begin 12 = .ok (.putfield 52, 3) := by decide +kernel
theorem dX0_begin_15 : decode cX0_begin 15 = .ok (.aload_n 0, 1) := by decide +kernel
theorem dX0_begin_16 : decode cX0_begin 16 = .ok (.getfield 12, 3) := by decide +kernel
theorem dX0_begin_19 : decode cX0_begin 19 = .ok (.invokevirtual 55, 3) := by decide +kernel
theorem dX0_begin_22 : decode cX0_begin 22 = .ok (.aload_n 0, 1) := by decide +kernel
theorem dX0_begin_23 : decode cX0_begin 23 = .ok (.iconst 0, 1) := by decide +kernel
theorem dX0_begin_24 : decode cX0_begin 24 = .ok (.putfield 38, 3) := by decide +kernel
theorem dX0_begin_27 : decode cX0_begin 27 = .ok (.aload_n 0, 1) := by decide +kernel
theorem dX0_begin_28 : decode cX0_begin 28 = .ok (.iconst 1, 1) := by decide +kernel
theorem dX0_begin_29 : decode cX0_begin 29 = .ok (.putfield 58, 3) := by decide +kernel
theorem dX0_begin_32 : decode cX0_begin 32 = .ok (.return_, 1) := by decide +kernel
theorem dX0_isComplete_0 : decode cX0_isComplete 0 = .ok (.aload_n 0, 1) := by decide +kernel
theorem dX0_isComplete_1 : decode cX0_isComplete 1 = .ok (.getfield 38, 3) := by decide +kernel
theorem dX0_isComplete_4 : decode cX0_isComplete 4 = .ok (.tableswitch 67 6 14 #[52, 67, 67, 67, 65, 67, 65, 67, 65], 52) := by decide +kernel
theorem dX0_isComplete_56 : decode cX0_isComplete 56 = .ok (.aload_n 0, 1) := by decide +kernel
theorem dX0_isComplete_57 : decode cX0_isComplete 57 = .ok (.getfield 58, 3) := by decide +kernel
theorem dX0_isComplete_60 : decode cX0_isComplete 60 = .ok (.ifCond .ne 7, 3) := by decide +kernel
theorem dX0_isComplete_63 : decode cX0_isComplete 63 = .ok (.iconst 1, 1) := by decide +kernel
theorem dX0_isComplete_64 : decode cX0_isComplete 64 = .ok (.goto 4, 3) := by decide +kernel
theorem dX0_isComplete_67 : decode cX0_isComplete 67 = .ok (.iconst 0, 1) := by decide +kernel
theorem dX0_isComplete_68 : decode cX0_isComplete 68 = .ok (.ireturn, 1) := by decide +kernel
theorem dX0_isComplete_69 : decode cX0_isComplete 69 = .ok (.iconst 1, 1) := by decide +kernel
theorem dX0_isComplete_70 : decode cX0_isComplete 70 = .ok (.ireturn, 1) := by decide +kernel
theorem dX0_isComplete_71 : decode cX0_isComplete 71 = .ok (.iconst 0, 1) := by decide +kernel
theorem dX0_isComplete_72 : decode cX0_isComplete 72 = .ok (.ireturn, 1) := by decide +kernel
set_option maxRecDepth 20000 in
theorem ggX0_placeAfter_X0_afterFirst : GoodIn wsX0_placeAfter wsX0_afterFirst := goodIn_r _ [6, 7, 8, 9, 10, 11, 12, 13, 14, 5, 15, 82, 83, 84, 85, 86, 87, 88, 89, 90] (by decide +kernel) (by decide +kernel)
set_option maxRecDepth 20000 in
theorem gX0_placeAfter_X0_afterFirst : GoodIn wsX0_placeAfter (wsV RX0 62 RX0 yX0_afterFirst wsX0_afterFirst) := goodIn_app (goodIn_of _ (by decide +kernel)) ggX0_placeAfter_X0_afterFirst
set_option maxRecDepth 20000 in
theorem ggX0_placeAfter_X0_afterSubject : GoodIn wsX0_placeAfter wsX0_afterSubject := goodIn_r _ [19, 20, 21, 22, 9, 10, 11, 82, 83, 84, 85, 86, 87, 88, 89, 90] (by decide +kernel) (by decide +kernel)
set_option maxRecDepth 20000 in
theorem gX0_placeAfter_X0_afterSubject : GoodIn wsX0_placeAfter (wsV RX0 66 RX0 yX0_afterSubject wsX0_afterSubject) := goodIn_app (goodIn_of _ (by decide +kernel)) ggX0_placeAfter_X0_afterSubject
set_option maxRecDepth 20000 in
theorem ggX0_placeAfter_X0_afterComparison : GoodIn wsX0_placeAfter wsX0_afterComparison := goodIn_r _ [26, 27, 22, 28, 29, 30, 5, 31, 82, 83, 84, 85, 86, 87, 88, 89, 90] (by decide +kernel) (by decide +kernel)
set_option maxRecDepth 20000 in
theorem gX0_placeAfter_X0_afterComparison : GoodIn wsX0_placeAfter (wsV RX0 69 RX0 yX0_afterComparison wsX0_afterComparison) := goodIn_app (goodIn_of _ (by decide +kernel)) ggX0_placeAfter_X0_afterComparison
set_option maxRecDepth 20000 in
theorem ggX0_placeAfter_X0_afterOverOrUnder : GoodIn wsX0_placeAfter wsX0_afterOverOrUnder := goodIn_r _ [31, 27, 82, 83, 84, 85, 86, 87, 88, 89, 90] (by decide +kernel) (by decide +kernel)
set_option maxRecDepth 20000 in
theorem gX0_placeAfter_X0_afterOverOrUnder : GoodIn wsX0_placeAfter (wsV RX0 72 RX0 yX0_afterOverOrUnder wsX0_afterOverOrUnder) := goodIn_app (goodIn_of _ (by decide +kernel)) ggX0_placeAfter_X0_afterOverOrUnder
set_option maxRecDepth 20000 in
theorem ggX0_placeAfter_X0_kindOfValue : GoodIn wsX0_placeAfter wsX0_kindOfValue := goodIn_r _ [35, 21, 82, 83, 84, 85, 86, 87, 88, 89, 90] (by decide +kernel) (by decide +kernel)
set_option maxRecDepth 20000 in
theorem gX0_placeAfter_X0_kindOfValue : GoodIn wsX0_placeAfter (wsV RX0 75 RX0 yX0_kindOfValue wsX0_kindOfValue) := goodIn_app (goodIn_of _ (by decide +kernel)) ggX0_placeAfter_X0_kindOfValue
set_option maxRecDepth 20000 in
theorem ggX0_placeAfter_X0_afterValue : GoodIn wsX0_placeAfter wsX0_afterValue := goodIn_r _ [39, 27, 40, 21, 22, 41, 42, 43, 44, 45, 46, 47, 48, 49, 50, 51, 10, 52, 53, 54, 55, 56, 57, 58, 59, 60, 82, 83, 84, 85, 86, 87, 88, 89, 90, 91, 92] (by decide +kernel) (by decide +kernel)
set_option maxRecDepth 20000 in
theorem gX0_placeAfter_X0_afterValue : GoodIn wsX0_placeAfter (wsV RX0 79 RX0 yX0_afterValue wsX0_afterValue) := goodIn_app (goodIn_of _ (by decide +kernel)) ggX0_placeAfter_X0_afterValue
set_option maxRecDepth 20000 in
theorem ggX0_placeAfter_X0_afterConditionEnd : GoodIn wsX0_placeAfter wsX0_afterConditionEnd := goodIn_r _ [64, 7, 82, 83, 84, 85, 86, 87, 88, 89, 90] (by decide +kernel) (by decide +kernel)
set_option maxRecDepth 20000 in
theorem gX0_placeAfter_X0_afterConditionEnd : GoodIn wsX0_placeAfter (wsV RX0 82 RX0 yX0_afterConditionEnd wsX0_afterConditionEnd) := goodIn_app (goodIn_of _ (by decide +kernel)) ggX0_placeAfter_X0_afterConditionEnd
set_option maxRecDepth 20000 in
theorem ggX0_placeAfter_X0_afterResult : GoodIn wsX0_placeAfter wsX0_afterResult := goodIn_r _ [15, 8, 9, 10, 11, 82, 83, 84, 85, 86, 87, 88, 89, 90] (by decide +kernel) (by decide +kernel)
set_option maxRecDepth 20000 in
theorem gX0_placeAfter_X0_afterResult : GoodIn wsX0_placeAfter (wsV RX0 85 RX0 yX0_afterResult wsX0_afterResult) := goodIn_app (goodIn_of _ (by decide +kernel)) ggX0_placeAfter_X0_afterResult
set_option maxRecDepth 20000 in
theorem ggX0_placeAfter_X0_afterGiven : GoodIn wsX0_placeAfter wsX0_afterGiven := goodIn_r _ [68, 69, 82, 83, 84, 85, 86, 87, 88, 89, 90] (by decide +kernel) (by decide +kernel)
set_option maxRecDepth 20000 in
theorem gX0_placeAfter_X0_afterGiven : GoodIn wsX0_placeAfter (wsV RX0 88 RX0 yX0_afterGiven wsX0_afterGiven) := goodIn_app (goodIn_of _ (by decide +kernel)) ggX0_placeAfter_X0_afterGiven
set_option maxRecDepth 20000 in
theorem ggX0_placeAfter_X0_afterUntil : GoodIn wsX0_placeAfter wsX0_afterUntil := goodIn_r _ [73] (by decide +kernel) (by decide +kernel)
set_option maxRecDepth 20000 in
theorem gX0_placeAfter_X0_afterUntil : GoodIn wsX0_placeAfter (wsV RX0 91 RX0 yX0_afterUntil wsX0_afterUntil) := goodIn_app (goodIn_of _ (by decide +kernel)) ggX0_placeAfter_X0_afterUntil
set_option maxRecDepth 20000 in
theorem ggX0_placeAfter_X0_afterFromDate : GoodIn wsX0_placeAfter wsX0_afterFromDate := goodIn_r _ [77, 40, 41, 42, 43, 44, 45, 46, 47, 48, 49, 50, 51, 10, 52, 82, 83, 84, 85, 86, 87, 88, 89, 90, 91, 92] (by decide +kernel) (by decide +kernel)
set_option maxRecDepth 20000 in
theorem gX0_placeAfter_X0_afterFromDate : GoodIn wsX0_placeAfter (wsV RX0 94 RX0 yX0_afterFromDate wsX0_afterFromDate) := goodIn_app (goodIn_of _ (by decide +kernel)) ggX0_placeAfter_X0_afterFromDate
set_option maxRecDepth 20000 in
theorem ggX0_placeAfter_X0_afterUntilDate : GoodIn wsX0_placeAfter wsX0_afterUntilDate := goodIn_r _ [81, 40, 53, 54, 55, 44, 56, 57, 58, 59, 49, 60, 51, 10, 52, 82, 83, 84, 85, 86, 87, 88, 89, 90, 91, 92] (by decide +kernel) (by decide +kernel)
set_option maxRecDepth 20000 in
theorem gX0_placeAfter_X0_afterUntilDate : GoodIn wsX0_placeAfter (wsV RX0 97 RX0 yX0_afterUntilDate wsX0_afterUntilDate) := goodIn_app (goodIn_of _ (by decide +kernel)) ggX0_placeAfter_X0_afterUntilDate
theorem dX0_placeAfter_0 : decode cX0_placeAfter 0 = .ok (.iload_n 1, 1) := by decide +kernel
theorem dX0_placeAfter_1 : decode cX0_placeAfter 1 = .ok (.ifCond .ne 7, 3) := by decide +kernel
theorem dX0_placeAfter_4 : decode cX0_placeAfter 4 = .ok (.iload_n 2, 1) := by decide +kernel
theorem dX0_placeAfter_5 : decode cX0_placeAfter 5 = .ok (.goto 4, 3) := by decide +kernel
theorem dX0_placeAfter_8 : decode cX0_placeAfter 8 = .ok (.iconst (-1), 1) := by decide +kernel
theorem dX0_placeAfter_9 : decode cX0_placeAfter 9 = .ok (.istore_n 3, 1) := by decide +kernel
theorem dX0_placeAfter_10 : decode cX0_placeAfter 10 = .ok (.aload_n 0, 1) := by decide +kernel
theorem dX0_placeAfter_11 : decode cX0_placeAfter 11 = .ok (.getfield 38, 3) := by decide +kernel
theorem dX0_placeAfter_14 : decode cX0_placeAfter 14 = .ok (.tableswitch 215 0 13 #[70, 76, 87, 93, 99, 105, 123, 129, 135, 147, 162, 179, 194, 200], 70) := by decide +kernel
theorem dX0_placeAfter_84 : decode cX0_placeAfter 84 = .ok (.aload_n 0, 1) := by decide +kernel
theorem dX0_placeAfter_85 : decode cX0_placeAfter 85 = .ok (.iload_n 3, 1) := by decide +kernel
theorem dX0_placeAfter_86 : decode cX0_placeAfter 86 = .ok (.invokevirtual 62, 3) := by decide +kernel
theorem dX0_placeAfter_89 : decode cX0_placeAfter 89 = .ok (.ireturn, 1) := by decide +kernel
theorem dX0_placeAfter_90 : decode cX0_placeAfter 90 = .ok (.iload_n 3, 1) := by decide +kernel
theorem dX0_placeAfter_91 : decode cX0_placeAfter 91 = .ok (.iconst 3, 1) := by decide +kernel
theorem dX0_placeAfter_92 : decode cX0_placeAfter 92 = .ok (.if_icmp .ne 7, 3) := by decide +kernel
theorem dX0_placeAfter_95 : decode cX0_placeAfter 95 = .ok (.iconst 2, 1) := by decide +kernel
theorem dX0_placeAfter_96 : decode cX0_placeAfter 96 = .ok (.goto 4, 3) := by decide +kernel
theorem dX0_placeAfter_99 : decode cX0_placeAfter 99 = .ok (.iconst (-1), 1) := by decide +kernel
theorem dX0_placeAfter_100 : decode cX0_placeAfter 100 = .ok (.ireturn, 1) := by decide +kernel
theorem dX0_placeAfter_101 : decode cX0_placeAfter 101 = .ok (.aload_n 0, 1) := by decide +kernel
theorem dX0_placeAfter_102 : decode cX0_placeAfter 102 = .ok (.iload_n 3, 1) := by decide +kernel
theorem dX0_placeAfter_103 : decode cX0_placeAfter 103 = .ok (.invokevirtual 66, 3) := by decide +kernel
theorem dX0_placeAfter_106 : decode cX0_placeAfter 106 = .ok (.ireturn, 1) := by decide +kernel
theorem dX0_placeAfter_107 : decode cX0_placeAfter 107 = .ok (.aload_n 0, 1) := by decide +kernel
theorem dX0_placeAfter_108 : decode cX0_placeAfter 108 = .ok (.iload_n 3, 1) := by decide +kernel
theorem dX0_placeAfter_109 : decode cX0_placeAfter 109 = .ok (.invokevirtual 69, 3) := by decide +kernel
theorem dX0_placeAfter_112 : decode cX0_placeAfter 112 = .ok (.ireturn, 1) := by decide +kernel
theorem dX0_placeAfter_113 : decode cX0_placeAfter 113 = .ok (.aload_n 0, 1) := by decide +kernel
theorem dX0_placeAfter_114 : decode cX0_placeAfter 114 = .ok (.iload_n 3, 1) := by decide +kernel
theorem dX0_placeAfter_115 : decode cX0_placeAfter 115 = .ok (.invokevirtual 72, 3) := by decide +kernel
theorem dX0_placeAfter_118 : decode cX0_placeAfter 118 = .ok (.ireturn, 1) := by decide +kernel
theorem dX0_placeAfter_119 : decode cX0_placeAfter 119 = .ok (.iload_n 1, 1) := by decide +kernel
theorem dX0_placeAfter_120 : decode cX0_placeAfter 120 = .ok (.aload_n 0, 1) := by decide +kernel
theorem dX0_placeAfter_121 : decode cX0_placeAfter 121 = .ok (.invokevirtual 75, 3) := by decide +kernel
theorem dX0_placeAfter_124 : decode cX0_placeAfter 124 = .ok (.if_icmp .ne 11, 3) := by decide +kernel
theorem dX0_placeAfter_127 : decode cX0_placeAfter 127 = .ok (.aload_n 0, 1) := by decide +kernel
theorem dX0_placeAfter_128 : decode cX0_placeAfter 128 = .ok (.iload_n 2, 1) := by decide +kernel
theorem dX0_placeAfter_129 : decode cX0_placeAfter 129 = .ok (.invokevirtual 79, 3) := by decide +kernel
theorem dX0_placeAfter_132 : decode cX0_placeAfter 132 = .ok (.goto 4, 3) := by decide +kernel
theorem dX0_placeAfter_135 : decode cX0_placeAfter 135 = .ok (.iconst (-1), 1) := by decide +kernel
theorem dX0_placeAfter_136 : decode cX0_placeAfter 136 = .ok (.ireturn, 1) := by decide +kernel
theorem dX0_placeAfter_137 : decode cX0_placeAfter 137 = .ok (.aload_n 0, 1) := by decide +kernel
theorem dX0_placeAfter_138 : decode cX0_placeAfter 138 = .ok (.iload_n 3, 1) := by decide +kernel
theorem dX0_placeAfter_139 : decode cX0_placeAfter 139 = .ok (.invokevirtual 82, 3) := by decide +kernel
theorem dX0_placeAfter_142 : decode cX0_placeAfter 142 = .ok (.ireturn, 1) := by decide +kernel
theorem dX0_placeAfter_143 : decode cX0_placeAfter 143 = .ok (.aload_n 0, 1) := by decide +kernel
theorem dX0_placeAfter_144 : decode cX0_placeAfter 144 = .ok (.iload_n 3, 1) := by decide +kernel
theorem dX0_placeAfter_145 : decode cX0_placeAfter 145 = .ok (.invokevirtual 85, 3) := by decide +kernel
theorem dX0_placeAfter_148 : decode cX0_placeAfter 148 = .ok (.ireturn, 1) := by decide +kernel
theorem dX0_placeAfter_149 : decode cX0_placeAfter 149 = .ok (.iload_n 3, 1) := by decide +kernel
theorem dX0_placeAfter_150 : decode cX0_placeAfter 150 = .ok (.iconst 4, 1) := by decide +kernel
theorem dX0_placeAfter_151 : decode cX0_placeAfter 151 = .ok (.if_icmp .ne 8, 3) := by decide +kernel
theorem dX0_placeAfter_154 : decode cX0_placeAfter 154 = .ok (.bipush 9, 2) := by decide +kernel
theorem dX0_placeAfter_156 : decode cX0_placeAfter 156 = .ok (.goto 4, 3) := by decide +kernel
theorem dX0_placeAfter_159 : decode cX0_placeAfter 159 = .ok (.iconst (-1), 1) := by decide +kernel
theorem dX0_placeAfter_160 : decode cX0_placeAfter 160 = .ok (.ireturn, 1) := by decide +kernel
theorem dX0_placeAfter_161 : decode cX0_placeAfter 161 = .ok (.iload_n 1, 1) := by decide +kernel
theorem dX0_placeAfter_162 : decode cX0_placeAfter 162 = .ok (.iconst 1, 1) := by decide +kernel
theorem dX0_placeAfter_163 : decode cX0_placeAfter 163 = .ok (.if_icmp .ne 11, 3) := by decide +kernel
theorem dX0_placeAfter_166 : decode cX0_placeAfter 166 = .ok (.aload_n 0, 1) := by decide +kernel
theorem dX0_placeAfter_167 : decode cX0_placeAfter 167 = .ok (.iload_n 2, 1) := by decide +kernel
theorem dX0_placeAfter_168 : decode cX0_placeAfter 168 = .ok (.invokevirtual 88, 3) := by decide +kernel
theorem dX0_placeAfter_171 : decode cX0_placeAfter 171 = .ok (.goto 4, 3) := by decide +kernel
theorem dX0_placeAfter_174 : decode cX0_placeAfter 174 = .ok (.iconst (-1), 1) := by decide +kernel
theorem dX0_placeAfter_175 : decode cX0_placeAfter 175 = .ok (.ireturn, 1) := by decide +kernel
theorem dX0_placeAfter_176 : decode cX0_placeAfter 176 = .ok (.iload_n 3, 1) := by decide +kernel
theorem dX0_placeAfter_177 : decode cX0_placeAfter 177 = .ok (.bipush 8, 2) := by decide +kernel
theorem dX0_placeAfter_179 : decode cX0_placeAfter 179 = .ok (.if_icmp .ne 8, 3) := by decide +kernel
theorem dX0_placeAfter_182 : decode cX0_placeAfter 182 = .ok (.bipush 11, 2) := by decide +kernel
theorem dX0_placeAfter_184 : decode cX0_placeAfter 184 = .ok (.goto 8, 3) := by decide +kernel
theorem dX0_placeAfter_187 : decode cX0_placeAfter 187 = .ok (.aload_n 0, 1) := by decide +kernel
theorem dX0_placeAfter_188 : decode cX0_placeAfter 188 = .ok (.iload_n 3, 1) := by decide +kernel
theorem dX0_placeAfter_189 : decode cX0_placeAfter 189 = .ok (.invokevirtual 91, 3) := by decide +kernel
theorem dX0_placeAfter_192 : decode cX0_placeAfter 192 = .ok (.ireturn, 1) := by decide +kernel
theorem dX0_placeAfter_193 : decode cX0_placeAfter 193 = .ok (.iload_n 1, 1) := by decide +kernel
theorem dX0_placeAfter_194 : decode cX0_placeAfter 194 = .ok (.iconst 2, 1) := by decide +kernel
theorem dX0_placeAfter_195 : decode cX0_placeAfter 195 = .ok (.if_icmp .ne 11, 3) := by decide +kernel
theorem dX0_placeAfter_198 : decode cX0_placeAfter 198 = .ok (.aload_n 0, 1) := by decide +kernel
theorem dX0_placeAfter_199 : decode cX0_placeAfter 199 = .ok (.iload_n 2, 1) := by decide +kernel
theorem dX0_placeAfter_200 : decode cX0_placeAfter 200 = .ok (.invokevirtual 94, 3) := by decide +kernel
theorem dX0_placeAfter_203 : decode cX0_placeAfter 203 = .ok (.goto 4, 3) := by decide +kernel
theorem dX0_placeAfter_206 : decode cX0_placeAfter 206 = .ok (.iconst (-1), 1) := by decide +kernel
theorem dX0_placeAfter_207 : decode cX0_placeAfter 207 = .ok (.ireturn, 1) := by decide +kernel
theorem dX0_placeAfter_208 : decode cX0_placeAfter 208 = .ok (.aload_n 0, 1) := by decide +kernel
theorem dX0_placeAfter_209 : decode cX0_placeAfter 209 = .ok (.iload_n 3, 1) := by decide +kernel
theorem dX0_placeAfter_210 : decode cX0_placeAfter 210 = .ok (.invokevirtual 91, 3) := by decide +kernel
theorem dX0_placeAfter_213 : decode cX0_placeAfter 213 = .ok (.ireturn, 1) := by decide +kernel
theorem dX0_placeAfter_214 : decode cX0_placeAfter 214 = .ok (.iload_n 1, 1) := by decide +kernel
theorem dX0_placeAfter_215 : decode cX0_placeAfter 215 = .ok (.iconst 2, 1) := by decide +kernel
theorem dX0_placeAfter_216 : decode cX0_placeAfter 216 = .ok (.if_icmp .ne 11, 3) := by decide +kernel
theorem dX0_placeAfter_219 : decode cX0_placeAfter 219 = .ok (.aload_n 0, 1) := by decide +kernel
theorem dX0_placeAfter_220 : decode cX0_placeAfter 220 = .ok (.iload_n 2, 1) := by decide +kernel
theorem dX0_placeAfter_221 : decode cX0_placeAfter 221 = .ok (.invokevirtual 97, 3) := by decide +kernel
theorem dX0_placeAfter_224 : decode cX0_placeAfter 224 = .ok (.goto 4, 3) := by decide +kernel
theorem dX0_placeAfter_227 : decode cX0_placeAfter 227 = .ok (.iconst (-1), 1) := by decide +kernel
theorem dX0_placeAfter_228 : decode cX0_placeAfter 228 = .ok (.ireturn, 1) := by decide +kernel
theorem dX0_placeAfter_229 : decode cX0_placeAfter 229 = .ok (.iconst (-1), 1) := by decide +kernel
theorem dX0_placeAfter_230 : decode cX0_placeAfter 230 = .ok (.ireturn, 1) := by decide +kernel
set_option maxRecDepth 20000 in
theorem ggX0_afterFirst_X5_isBetween : GoodIn wsX0_afterFirst wsX5_isBetween := goodIn_r _ [5] (by decide +kernel) (by decide +kernel)
set_option maxRecDepth 20000 in
theorem gX0_afterFirst_X5_isBetween_n100 : GoodIn wsX0_afterFirst (wsX5_isBetween) := ggX0_afterFirst_X5_isBetween
set_option maxRecDepth 20000 in
theorem ggX0_afterFirst_X0_afterResult : GoodIn wsX0_afterFirst wsX0_afterResult := goodIn_r _ [10, 2, 3, 4, 5, 11, 12, 13, 14, 15, 16, 17, 18, 19] (by decide +kernel) (by decide +kernel)
set_option maxRecDepth 20000 in
theorem gX0_afterFirst_X0_afterResult : GoodIn wsX0_afterFirst (wsV RX0 85 RX0 yX0_afterResult wsX0_afterResult) := goodIn_app (goodIn_of _ (by decide +kernel)) ggX0_afterFirst_X0_afterResult
theorem dX0_afterFirst_0 : decode cX0_afterFirst 0 = .ok (.iload_n 1, 1) := by decide +kernel
theorem dX0_afterFirst_1 : decode cX0_afterFirst 1 = .ok (.ifCond .ne 5, 3) := by decide +kernel
theorem dX0_afterFirst_4 : decode cX0_afterFirst 4 = .ok (.iconst 2, 1) := by decide +kernel
theorem dX0_afterFirst_5 : decode cX0_afterFirst 5 = .ok (.ireturn, 1) := by decide +kernel
theorem dX0_afterFirst_6 : decode cX0_afterFirst 6 = .ok (.bipush 16, 2) := by decide +kernel
theorem dX0_afterFirst_8 : decode cX0_afterFirst 8 = .ok (.iload_n 1, 1) := by decide +kernel
theorem dX0_afterFirst_9 : decode cX0_afterFirst 9 = .ok (.bipush 21, 2) := by decide +kernel
theorem dX0_afterFirst_11 : decode cX0_afterFirst 11 = .ok (.invokestatic 100, 3) := by decide +kernel
theorem dX0_afterFirst_14 : decode cX0_afterFirst 14 = .ok (.ifCond .eq 21, 3) := by decide +kernel
theorem dX0_afterFirst_17 : decode cX0_afterFirst 17 = .ok (.aload_n 0, 1) := by decide +kernel
theorem dX0_afterFirst_18 : decode cX0_afterFirst 18 = .ok (.iconst 0, 1) := by decide +kernel
theorem dX0_afterFirst_19 : decode cX0_afterFirst 19 = .ok (.putfield 58, 3) := by decide +kernel
theorem dX0_afterFirst_22 : decode cX0_afterFirst 22 = .ok (.aload_n 0, 1) := by decide +kernel
theorem dX0_afterFirst_23 : decode cX0_afterFirst 23 = .ok (.bipush 10, 2) := by decide +kernel
theorem dX0_afterFirst_25 : decode cX0_afterFirst 25 = .ok (.iload_n 1, 1) := by decide +kernel
theorem dX0_afterFirst_26 : decode cX0_afterFirst 26 = .ok (.iadd, 1) := by decide +kernel
theorem dX0_afterFirst_27 : decode cX0_afterFirst 27 = .ok (.bipush 16, 2) := by decide +kernel
theorem dX0_afterFirst_29 : decode cX0_afterFirst 29 = .ok (.isub, 1) := by decide +kernel
theorem dX0_afterFirst_30 : decode cX0_afterFirst 30 = .ok (.putfield 46, 3) := by decide +kernel
theorem dX0_afterFirst_33 : decode cX0_afterFirst 33 = .ok (.iconst 1, 1) := by decide +kernel
theorem dX0_afterFirst_34 : decode cX0_afterFirst 34 = .ok (.ireturn, 1) := by decide +kernel
theorem dX0_afterFirst_35 : decode cX0_afterFirst 35 = .ok (.aload_n 0, 1) := by decide +kernel
theorem dX0_afterFirst_36 : decode cX0_afterFirst 36 = .ok (.iload_n 1, 1) := by decide +kernel
theorem dX0_afterFirst_37 : decode cX0_afterFirst 37 = .ok (.invokevirtual 85, 3) := by decide +kernel
theorem dX0_afterFirst_40 : decode cX0_afterFirst 40 = .ok (.ireturn, 1) := by decide +kernel
set_option maxRecDepth 20000 in
theorem ggX0_afterSubject_X5_isBetween : GoodIn wsX0_afterSubject wsX5_isBetween := goodIn_r _ [6] (by decide +kernel) (by decide +kernel)
set_option maxRecDepth 20000 in
theorem gX0_afterSubject_X5_isBetween_n100 : GoodIn wsX0_afterSubject (wsX5_isBetween) := ggX0_afterSubject_X5_isBetween
theorem dX0_afterSubject_0 : decode cX0_afterSubject 0 = .ok (.bipush 16, 2) := by decide +kernel
theorem dX0_afterSubject_2 : decode cX0_afterSubject 2 = .ok (.iload_n 1, 1) := by decide +kernel
theorem dX0_afterSubject_3 : decode cX0_afterSubject 3 = .ok (.bipush 21, 2) := by decide +kernel
theorem dX0_afterSubject_5 : decode cX0_afterSubject 5 = .ok (.invokestatic 100, 3) := by decide +kernel
theorem dX0_afterSubject_8 : decode cX0_afterSubject 8 = .ok (.ifCond .eq 21, 3) := by decide +kernel
theorem dX0_afterSubject_11 : decode cX0_afterSubject 11 = .ok (.aload_n 0, 1) := by decide +kernel
theorem dX0_afterSubject_12 : decode cX0_afterSubject 12 = .ok (.dup, 1) := by decide +kernel
theorem dX0_afterSubject_13 : decode cX0_afterSubject 13 = .ok (.getfield 52, 3) := by decide +kernel
theorem dX0_afterSubject_16 : decode cX0_afterSubject 16 = .ok (.iconst 1, 1) := by decide +kernel
theorem dX0_afterSubject_17 : decode cX0_afterSubject 17 = .ok (.iload_n 1, 1) := by decide +kernel
theorem dX0_afterSubject_18 : decode cX0_afterSubject 18 = .ok (.bipush 16, 2) := by decide +kernel
theorem dX0_afterSubject_20 : decode cX0_afterSubject 20 = .ok (.isub, 1) := by decide +kernel
theorem dX0_afterSubject_21 : decode cX0_afterSubject 21 = .ok (.ishl, 1) := by decide +kernel
theorem dX0_afterSubject_22 : decode cX0_afterSubject 22 = .ok (.ior, 1) := by decide +kernel
theorem dX0_afterSubject_23 : decode cX0_afterSubject 23 = .ok (.putfield 52, 3) := by decide +kernel
theorem dX0_afterSubject_26 : decode cX0_afterSubject 26 = .ok (.bipush 6, 2) := by decide +kernel
theorem dX0_afterSubject_28 : decode cX0_afterSubject 28 = .ok (.ireturn, 1) := by decide +kernel
theorem dX0_afterSubject_29 : decode cX0_afterSubject 29 = .ok (.bipush 10, 2) := by decide +kernel
theorem dX0_afterSubject_31 : decode cX0_afterSubject 31 = .ok (.iload_n 1, 1) := by decide +kernel
theorem dX0_afterSubject_32 : decode cX0_afterSubject 32 = .ok (.bipush 15, 2) := by decide +kernel
theorem dX0_afterSubject_34 : decode cX0_afterSubject 34 = .ok (.invokestatic 100, 3) := by decide +kernel
theorem dX0_afterSubject_37 : decode cX0_afterSubject 37 = .ok (.ifCond .eq 18, 3) := by decide +kernel
theorem dX0_afterSubject_40 : decode cX0_afterSubject 40 = .ok (.aload_n 0, 1) := by decide +kernel
theorem dX0_afterSubject_41 : decode cX0_afterSubject 41 = .ok (.iload_n 1, 1) := by decide +kernel
theorem dX0_afterSubject_42 : decode cX0_afterSubject 42 = .ok (.bipush 10, 2) := by decide +kernel
theorem dX0_afterSubject_44 : decode cX0_afterSubject 44 = .ok (.isub, 1) := by decide +kernel
theorem dX0_afterSubject_45 : decode cX0_afterSubject 45 = .ok (.putfield 104, 3) := by decide +kernel
theorem dX0_afterSubject_48 : decode cX0_afterSubject 48 = .ok (.aload_n 0, 1) := by decide +kernel
theorem dX0_afterSubject_49 : decode cX0_afterSubject 49 = .ok (.iconst 0, 1) := by decide +kernel
theorem dX0_afterSubject_50 : decode cX0_afterSubject 50 = .ok (.putfield 107, 3) := by decide +kernel
theorem dX0_afterSubject_53 : decode cX0_afterSubject 53 = .ok (.iconst 3, 1) := by decide +kernel
theorem dX0_afterSubject_54 : decode cX0_afterSubject 54 = .ok (.ireturn, 1) := by decide +kernel
theorem dX0_afterSubject_55 : decode cX0_afterSubject 55 = .ok (.iconst (-1), 1) := by decide +kernel
theorem dX0_afterSubject_56 : decode cX0_afterSubject 56 = .ok (.ireturn, 1) := by decide +kernel
set_option maxRecDepth 20000 in
theorem ggX0_afterComparison_X0_afterOverOrUnder : GoodIn wsX0_afterComparison wsX0_afterOverOrUnder := goodIn_r _ [7, 1, 8, 9, 10, 11, 12, 13, 14, 15, 16] (by decide +kernel) (by decide +kernel)
set_option maxRecDepth 20000 in
theorem gX0_afterComparison_X0_afterOverOrUnder : GoodIn wsX0_afterComparison (wsV RX0 72 RX0 yX0_afterOverOrUnder wsX0_afterOverOrUnder) := goodIn_app (goodIn_of _ (by decide +kernel)) ggX0_afterComparison_X0_afterOverOrUnder
theorem dX0_afterComparison_0 : decode cX0_afterComparison 0 = .ok (.iload_n 1, 1) := by decide +kernel
theorem dX0_afterComparison_1 : decode cX0_afterComparison 1 = .ok (.iconst 4, 1) := by decide +kernel
theorem dX0_afterComparison_2 : decode cX0_afterComparison 2 = .ok (.if_icmp .ne 10, 3) := by decide +kernel
theorem dX0_afterComparison_5 : decode cX0_afterComparison 5 = .ok (.aload_n 0, 1) := by decide +kernel
theorem dX0_afterComparison_6 : decode cX0_afterComparison 6 = .ok (.iconst 4, 1) := by decide +kernel
theorem dX0_afterComparison_7 : decode cX0_afterComparison 7 = .ok (.putfield 110, 3) := by decide +kernel
theorem dX0_afterComparison_10 : decode cX0_afterComparison 10 = .ok (.iconst 5, 1) := by decide +kernel
theorem dX0_afterComparison_11 : decode cX0_afterComparison 11 = .ok (.ireturn, 1) := by decide +kernel
theorem dX0_afterComparison_12 : decode cX0_afterComparison 12 = .ok (.iload_n 1, 1) := by decide +kernel
theorem dX0_afterComparison_13 : decode cX0_afterComparison 13 = .ok (.bipush 7, 2) := by decide +kernel
theorem dX0_afterComparison_15 : decode cX0_afterComparison 15 = .ok (.if_icmp .ne 10, 3) := by decide +kernel
theorem dX0_afterComparison_18 : decode cX0_afterComparison 18 = .ok (.aload_n 0, 1) := by decide +kernel
theorem dX0_afterComparison_19 : decode cX0_afterComparison 19 = .ok (.iconst 1, 1) := by decide +kernel
theorem dX0_afterComparison_20 : decode cX0_afterComparison 20 = .ok (.putfield 107, 3) := by decide +kernel
theorem dX0_afterComparison_23 : decode cX0_afterComparison 23 = .ok (.iconst 4, 1) := by decide +kernel
theorem dX0_afterComparison_24 : decode cX0_afterComparison 24 = .ok (.ireturn, 1) := by decide +kernel
theorem dX0_afterComparison_25 : decode cX0_afterComparison 25 = .ok (.aload_n 0, 1) := by decide +kernel
theorem dX0_afterComparison_26 : decode cX0_afterComparison 26 = .ok (.iload_n 1, 1) := by decide +kernel
theorem dX0_afterComparison_27 : decode cX0_afterComparison 27 = .ok (.invokevirtual 72, 3) := by decide +kernel
theorem dX0_afterComparison_30 : decode cX0_afterComparison 30 = .ok (.ireturn, 1) := by decide +kernel
theorem dX0_afterOverOrUnder_0 : decode cX0_afterOverOrUnder 0 = .ok (.iload_n 1, 1) := by decide +kernel
theorem dX0_afterOverOrUnder_1 : decode cX0_afterOverOrUnder 1 = .ok (.iconst 5, 1) := by decide +kernel
theorem dX0_afterOverOrUnder_2 : decode cX0_afterOverOrUnder 2 = .ok (.if_icmp .eq 11, 3) := by decide +kernel
theorem dX0_afterOverOrUnder_5 : decode cX0_afterOverOrUnder 5 = .ok (.iload_n 1, 1) := by decide +kernel
theorem dX0_afterOverOrUnder_6 : decode cX0_afterOverOrUnder 6 = .ok (.bipush 6, 2) := by decide +kernel
theorem dX0_afterOverOrUnder_8 : decode cX0_afterOverOrUnder 8 = .ok (.if_icmp .eq 5, 3) := by decide +kernel
theorem dX0_afterOverOrUnder_11 : decode cX0_afterOverOrUnder 11 = .ok (.iconst (-1), 1) := by decide +kernel
theorem dX0_afterOverOrUnder_12 : decode cX0_afterOverOrUnder 12 = .ok (.ireturn, 1) := by decide +kernel
theorem dX0_afterOverOrUnder_13 : decode cX0_afterOverOrUnder 13 = .ok (.aload_n 0, 1) := by decide +kernel
theorem dX0_afterOverOrUnder_14 : decode cX0_afterOverOrUnder 14 = .ok (.iload_n 1, 1) := by decide +kernel
theorem dX0_afterOverOrUnder_15 : decode cX0_afterOverOrUnder 15 = .ok (.putfield 110, 3) := by decide +kernel
theorem dX0_afterOverOrUnder_18 : decode cX0_afterOverOrUnder 18 = .ok (.iconst 5, 1) := by decide +kernel
theorem dX0_afterOverOrUnder_19 : decode cX0_afterOverOrUnder 19 = .ok (.ireturn, 1) := by decide +kernel
theorem dX0_kindOfValue_0 : decode cX0_kindOfValue 0 = .ok (.aload_n 0, 1) := by decide +kernel
theorem dX0_kindOfValue_1 : decode cX0_kindOfValue 1 = .ok (.getfield 104, 3) := by decide +kernel
theorem dX0_kindOfValue_4 : decode cX0_kindOfValue 4 = .ok (.iconst 4, 1) := by decide +kernel
theorem dX0_kindOfValue_5 : decode cX0_kindOfValue 5 = .ok (.if_icmp .ge 7, 3) := by decide +kernel
theorem dX0_kindOfValue_8 : decode cX0_kindOfValue 8 = .ok (.iconst 1, 1) := by decide +kernel
theorem dX0_kindOfValue_9 : decode cX0_kindOfValue 9 = .ok (.goto 4, 3) := by decide +kernel
theorem dX0_kindOfValue_12 : decode cX0_kindOfValue 12 = .ok (.iconst 2, 1) := by decide +kernel
theorem dX0_kindOfValue_13 : decode cX0_kindOfValue 13 = .ok (.ireturn, 1) := by decide +kernel
set_option maxRecDepth 20000 in
theorem ggX0_afterValue_X1_keepFrom : GoodIn wsX0_afterValue wsX1_keepFrom := goodIn_r _ [9, 10, 11, 12, 13, 14, 15, 16, 17, 35, 36] (by decide +kernel) (by decide +kernel)
set_option maxRecDepth 20000 in
theorem gX0_afterValue_X1_keepFrom : GoodIn wsX0_afterValue (wsV RX0 113 RX1 yX1_keepFrom wsX1_keepFrom) := goodIn_app (goodIn_of _ (by decide +kernel)) ggX0_afterValue_X1_keepFrom
set_option maxRecDepth 20000 in
theorem ggX0_afterValue_X1_keepUntil : GoodIn wsX0_afterValue wsX1_keepUntil := goodIn_r _ [21, 22, 23, 24, 13, 25, 15, 16, 17, 35, 36] (by decide +kernel) (by decide +kernel)
set_option maxRecDepth 20000 in
theorem gX0_afterValue_X1_keepUntil : GoodIn wsX0_afterValue (wsV RX0 117 RX1 yX1_keepUntil wsX1_keepUntil) := goodIn_app (goodIn_of _ (by decide +kernel)) ggX0_afterValue_X1_keepUntil
theorem dX0_afterValue_0 : decode cX0_afterValue 0 = .ok (.aload_n 0, 1) := by decide +kernel
theorem dX0_afterValue_1 : decode cX0_afterValue 1 = .ok (.getfield 110, 3) := by decide +kernel
theorem dX0_afterValue_4 : decode cX0_afterValue 4 = .ok (.iconst 4, 1) := by decide +kernel
theorem dX0_afterValue_5 : decode cX0_afterValue 5 = .ok (.if_icmp .ne 30, 3) := by decide +kernel
theorem dX0_afterValue_8 : decode cX0_afterValue 8 = .ok (.aload_n 0, 1) := by decide +kernel
theorem dX0_afterValue_9 : decode cX0_afterValue 9 = .ok (.getfield 12, 3) := by decide +kernel
theorem dX0_afterValue_12 : decode cX0_afterValue 12 = .ok (.aload_n 0, 1) := by decide +kernel
theorem dX0_afterValue_13 : decode cX0_afterValue 13 = .ok (.getfield 104, 3) := by decide +kernel
theorem dX0_afterValue_16 : decode cX0_afterValue 16 = .ok (.iload_n 1, 1) := by decide +kernel
theorem dX0_afterValue_17 : decode cX0_afterValue 17 = .ok (.invokevirtual 113, 3) := by decide +kernel
theorem dX0_afterValue_20 : decode cX0_afterValue 20 = .ok (.aload_n 0, 1) := by decide +kernel
theorem dX0_afterValue_21 : decode cX0_afterValue 21 = .ok (.getfield 12, 3) := by decide +kernel
theorem dX0_afterValue_24 : decode cX0_afterValue 24 = .ok (.aload_n 0, 1) := by decide +kernel
theorem dX0_afterValue_25 : decode cX0_afterValue 25 = .ok (.getfield 104, 3) := by decide +kernel
theorem dX0_afterValue_28 : decode cX0_afterValue 28 = .ok (.iload_n 1, 1) := by decide +kernel
theorem dX0_afterValue_29 : decode cX0_afterValue 29 = .ok (.invokevirtual 117, 3) := by decide +kernel
theorem dX0_afterValue_32 : decode cX0_afterValue 32 = .ok (.goto 94, 3) := by decide +kernel
theorem dX0_afterValue_35 : decode cX0_afterValue 35 = .ok (.aload_n 0, 1) := by decide +kernel
theorem dX0_afterValue_36 : decode cX0_afterValue 36 = .ok (.getfield 110, 3) := by decide +kernel
theorem dX0_afterValue_39 : decode cX0_afterValue 39 = .ok (.iconst 5, 1) := by decide +kernel
theorem dX0_afterValue_40 : decode cX0_afterValue 40 = .ok (.if_icmp .ne 25, 3) := by decide +kernel
theorem dX0_afterValue_43 : decode cX0_afterValue 43 = .ok (.aload_n 0, 1) := by decide +kernel
theorem dX0_afterValue_44 : decode cX0_afterValue 44 = .ok (.getfield 107, 3) := by decide +kernel
theorem dX0_afterValue_47 : decode cX0_afterValue 47 = .ok (.ifCond .eq 18, 3) := by decide +kernel
theorem dX0_afterValue_50 : decode cX0_afterValue 50 = .ok (.aload_n 0, 1) := by decide +kernel
theorem dX0_afterValue_51 : decode cX0_afterValue 51 = .ok (.getfield 12, 3) := by decide +kernel
theorem dX0_afterValue_54 : decode cX0_afterValue 54 = .ok (.aload_n 0, 1) := by decide +kernel
theorem dX0_afterValue_55 : decode cX0_afterValue 55 = .ok (.getfield 104, 3) := by decide +kernel
theorem dX0_afterValue_58 : decode cX0_afterValue 58 = .ok (.iload_n 1, 1) := by decide +kernel
theorem dX0_afterValue_59 : decode cX0_afterValue 59 = .ok (.invokevirtual 117, 3) := by decide +kernel
theorem dX0_afterValue_62 : decode cX0_afterValue 62 = .ok (.goto 64, 3) := by decide +kernel
theorem dX0_afterValue_65 : decode cX0_afterValue 65 = .ok (.aload_n 0, 1) := by decide +kernel
theorem dX0_afterValue_66 : decode cX0_afterValue 66 = .ok (.getfield 110, 3) := by decide +kernel
theorem dX0_afterValue_69 : decode cX0_afterValue 69 = .ok (.iconst 5, 1) := by decide +kernel
theorem dX0_afterValue_70 : decode cX0_afterValue 70 = .ok (.if_icmp .ne 20, 3) := by decide +kernel
theorem dX0_afterValue_73 : decode cX0_afterValue 73 = .ok (.aload_n 0, 1) := by decide +kernel
theorem dX0_afterValue_74 : decode cX0_afterValue 74 = .ok (.getfield 12, 3) := by decide +kernel
theorem dX0_afterValue_77 : decode cX0_afterValue 77 = .ok (.aload_n 0, 1) := by decide +kernel
theorem dX0_afterValue_78 : decode cX0_afterValue 78 = .ok (.getfield 104, 3) := by decide +kernel
theorem dX0_afterValue_81 : decode cX0_afterValue 81 = .ok (.iload_n 1, 1) := by decide +kernel
theorem dX0_afterValue_82 : decode cX0_afterValue 82 = .ok (.iconst 1, 1) := by decide +kernel
theorem dX0_afterValue_83 : decode cX0_afterValue 83 = .ok (.iadd, 1) := by decide +kernel
theorem dX0_afterValue_84 : decode cX0_afterValue 84 = .ok (.invokevirtual 113, 3) := by decide +kernel
theorem dX0_afterValue_87 : decode cX0_afterValue 87 = .ok (.goto 39, 3) := by decide +kernel
theorem dX0_afterValue_90 : decode cX0_afterValue 90 = .ok (.aload_n 0, 1) := by decide +kernel
theorem dX0_afterValue_91 : decode cX0_afterValue 91 = .ok (.getfield 107, 3) := by decide +kernel
theorem dX0_afterValue_94 : decode cX0_afterValue 94 = .ok (.ifCond .eq 18, 3) := by decide +kernel
theorem dX0_afterValue_97 : decode cX0_afterValue 97 = .ok (.aload_n 0, 1) := by decide +kernel
theorem dX0_afterValue_98 : decode cX0_afterValue 98 = .ok (.getfield 12, 3) := by decide +kernel
theorem dX0_afterValue_101 : decode cX0_afterValue 101 = .ok (.aload_n 0, 1) := by decide +kernel
theorem dX0_afterValue_102 : decode cX0_afterValue 102 = .ok (.getfield 104, 3) := by decide +kernel
theorem dX0_afterValue_105 : decode cX0_afterValue 105 = .ok (.iload_n 1, 1) := by decide +kernel
theorem dX0_afterValue_106 : decode cX0_afterValue 106 = .ok (.invokevirtual 113, 3) := by decide +kernel
theorem dX0_afterValue_109 : decode cX0_afterValue 109 = .ok (.goto 17, 3) := by decide +kernel
theorem dX0_afterValue_112 : decode cX0_afterValue 112 = .ok (.aload_n 0, 1) := by decide +kernel
theorem dX0_afterValue_113 : decode cX0_afterValue 113 = .ok (.getfield 12, 3) := by decide +kernel
theorem dX0_afterValue_116 : decode cX0_afterValue 116 = .ok (.aload_n 0, 1) := by decide +kernel
theorem dX0_afterValue_117 : decode cX0_afterValue 117 = .ok (.getfield 104, 3) := by decide +kernel
theorem dX0_afterValue_120 : decode cX0_afterValue 120 = .ok (.iload_n 1, 1) := by decide +kernel
theorem dX0_afterValue_121 : decode cX0_afterValue 121 = .ok (.iconst 1, 1) := by decide +kernel
theorem dX0_afterValue_122 : decode cX0_afterValue 122 = .ok (.isub, 1) := by decide +kernel
theorem dX0_afterValue_123 : decode cX0_afterValue 123 = .ok (.invokevirtual 117, 3) := by decide +kernel
theorem dX0_afterValue_126 : decode cX0_afterValue 126 = .ok (.bipush 6, 2) := by decide +kernel
theorem dX0_afterValue_128 : decode cX0_afterValue 128 = .ok (.ireturn, 1) := by decide +kernel
theorem dX0_afterConditionEnd_0 : decode cX0_afterConditionEnd 0 = .ok (.iload_n 1, 1) := by decide +kernel
theorem dX0_afterConditionEnd_1 : decode cX0_afterConditionEnd 1 = .ok (.iconst 1, 1) := by decide +kernel
theorem dX0_afterConditionEnd_2 : decode cX0_afterConditionEnd 2 = .ok (.if_icmp .ne 5, 3) := by decide +kernel
theorem dX0_afterConditionEnd_5 : decode cX0_afterConditionEnd 5 = .ok (.iconst 2, 1) := by decide +kernel
theorem dX0_afterConditionEnd_6 : decode cX0_afterConditionEnd 6 = .ok (.ireturn, 1) := by decide +kernel
theorem dX0_afterConditionEnd_7 : decode cX0_afterConditionEnd 7 = .ok (.iload_n 1, 1) := by decide +kernel
theorem dX0_afterConditionEnd_8 : decode cX0_afterConditionEnd 8 = .ok (.iconst 2, 1) := by decide +kernel
theorem dX0_afterConditionEnd_9 : decode cX0_afterConditionEnd 9 = .ok (.if_icmp .ne 15, 3) := by decide +kernel
theorem dX0_afterConditionEnd_12 : decode cX0_afterConditionEnd 12 = .ok (.aload_n 0, 1) := by decide +kernel
theorem dX0_afterConditionEnd_13 : decode cX0_afterConditionEnd 13 = .ok (.getfield 58, 3) := by decide +kernel
theorem dX0_afterConditionEnd_16 : decode cX0_afterConditionEnd 16 = .ok (.ifCond .eq 8, 3) := by decide +kernel
theorem dX0_afterConditionEnd_19 : decode cX0_afterConditionEnd 19 = .ok (.bipush 7, 2) := by decide +kernel
theorem dX0_afterConditionEnd_21 : decode cX0_afterConditionEnd 21 = .ok (.goto 4, 3) := by decide +kernel
theorem dX0_afterConditionEnd_24 : decode cX0_afterConditionEnd 24 = .ok (.iconst (-1), 1) := by decide +kernel
theorem dX0_afterConditionEnd_25 : decode cX0_afterConditionEnd 25 = .ok (.ireturn, 1) := by decide +kernel
set_option maxRecDepth 20000 in
theorem ggX0_afterResult_X5_isBetween : GoodIn wsX0_afterResult wsX5_isBetween := goodIn_r _ [4] (by decide +kernel) (by decide +kernel)
set_option maxRecDepth 20000 in
theorem gX0_afterResult_X5_isBetween_n100 : GoodIn wsX0_afterResult (wsX5_isBetween) := ggX0_afterResult_X5_isBetween
theorem dX0_afterResult_0 : decode cX0_afterResult 0 = .ok (.bipush 22, 2) := by decide +kernel
theorem dX0_afterResult_2 : decode cX0_afterResult 2 = .ok (.iload_n 1, 1) := by decide +kernel
theorem dX0_afterResult_3 : decode cX0_afterResult 3 = .ok (.bipush 25, 2) := by decide +kernel
theorem dX0_afterResult_5 : decode cX0_afterResult 5 = .ok (.invokestatic 100, 3) := by decide +kernel
theorem dX0_afterResult_8 : decode cX0_afterResult 8 = .ok (.ifCond .ne 5, 3) := by decide +kernel
theorem dX0_afterResult_11 : decode cX0_afterResult 11 = .ok (.iconst (-1), 1) := by decide +kernel
theorem dX0_afterResult_12 : decode cX0_afterResult 12 = .ok (.ireturn, 1) := by decide +kernel
theorem dX0_afterResult_13 : decode cX0_afterResult 13 = .ok (.aload_n 0, 1) := by decide +kernel
theorem dX0_afterResult_14 : decode cX0_afterResult 14 = .ok (.iload_n 1, 1) := by decide +kernel
theorem dX0_afterResult_15 : decode cX0_afterResult 15 = .ok (.bipush 22, 2) := by decide +kernel
theorem dX0_afterResult_17 : decode cX0_afterResult 17 = .ok (.isub, 1) := by decide +kernel
theorem dX0_afterResult_18 : decode cX0_afterResult 18 = .ok (.putfield 46, 3) := by decide +kernel
theorem dX0_afterResult_21 : decode cX0_afterResult 21 = .ok (.bipush 8, 2) := by decide +kernel
theorem dX0_afterResult_23 : decode cX0_afterResult 23 = .ok (.ireturn, 1) := by decide +kernel
theorem dX0_afterGiven_0 : decode cX0_afterGiven 0 = .ok (.aload_n 0, 1) := by decide +kernel
theorem dX0_afterGiven_1 : decode cX0_afterGiven 1 = .ok (.iload_n 1, 1) := by decide +kernel
theorem dX0_afterGiven_2 : decode cX0_afterGiven 2 = .ok (.putfield 49, 3) := by decide +kernel
theorem dX0_afterGiven_5 : decode cX0_afterGiven 5 = .ok (.bipush 10, 2) := by decide +kernel
theorem dX0_afterGiven_7 : decode cX0_afterGiven 7 = .ok (.ireturn, 1) := by decide +kernel
set_option maxRecDepth 20000 in
theorem ggX0_afterFromDate_X1_keepFrom : GoodIn wsX0_afterFromDate wsX1_keepFrom := goodIn_r _ [6, 7, 8, 9, 10, 11, 12, 13, 14, 24, 25] (by decide +kernel) (by decide +kernel)
set_option maxRecDepth 20000 in
theorem gX0_afterFromDate_X1_keepFrom : GoodIn wsX0_afterFromDate (wsV RX0 113 RX1 yX1_keepFrom wsX1_keepFrom) := goodIn_app (goodIn_of _ (by decide +kernel)) ggX0_afterFromDate_X1_keepFrom
theorem dX0_afterFromDate_0 : decode cX0_afterFromDate 0 = .ok (.aload_n 0, 1) := by decide +kernel
theorem dX0_afterFromDate_1 : decode cX0_afterFromDate 1 = .ok (.getfield 12, 3) := by decide +kernel
theorem dX0_afterFromDate_4 : decode cX0_afterFromDate 4 = .ok (.bipush 6, 2) := by decide +kernel
theorem dX0_afterFromDate_6 : decode cX0_afterFromDate 6 = .ok (.iload_n 1, 1) := by decide +kernel
theorem dX0_afterFromDate_7 : decode cX0_afterFromDate 7 = .ok (.invokevirtual 113, 3) := by decide +kernel
theorem dX0_afterFromDate_10 : decode cX0_afterFromDate 10 = .ok (.bipush 12, 2) := by decide +kernel
theorem dX0_afterFromDate_12 : decode cX0_afterFromDate 12 = .ok (.ireturn, 1) := by decide +kernel
theorem dX0_afterUntil_0 : decode cX0_afterUntil 0 = .ok (.iload_n 1, 1) := by decide +kernel
theorem dX0_afterUntil_1 : decode cX0_afterUntil 1 = .ok (.bipush 9, 2) := by decide +kernel
theorem dX0_afterUntil_3 : decode cX0_afterUntil 3 = .ok (.if_icmp .ne 8, 3) := by decide +kernel
theorem dX0_afterUntil_6 : decode cX0_afterUntil 6 = .ok (.bipush 13, 2) := by decide +kernel
theorem dX0_afterUntil_8 : decode cX0_afterUntil 8 = .ok (.goto 4, 3) := by decide +kernel
theorem dX0_afterUntil_11 : decode cX0_afterUntil 11 = .ok (.iconst (-1), 1) := by decide +kernel
theorem dX0_afterUntil_12 : decode cX0_afterUntil 12 = .ok (.ireturn, 1) := by decide +kernel
set_option maxRecDepth 20000 in
theorem ggX0_afterUntilDate_X1_keepUntil : GoodIn wsX0_afterUntilDate wsX1_keepUntil := goodIn_r _ [6, 7, 8, 9, 10, 11, 12, 13, 14, 24, 25] (by decide +kernel) (by decide +kernel)
set_option maxRecDepth 20000 in
theorem gX0_afterUntilDate_X1_keepUntil : GoodIn wsX0_afterUntilDate (wsV RX0 117 RX1 yX1_keepUntil wsX1_keepUntil) := goodIn_app (goodIn_of _ (by decide +kernel)) ggX0_afterUntilDate_X1_keepUntil
theorem dX0_afterUntilDate_0 : decode cX0_afterUntilDate 0 = .ok (.aload_n 0, 1) := by decide +kernel
theorem dX0_afterUntilDate_1 : decode cX0_afterUntilDate 1 = .ok (.getfield 12, 3) := by decide +kernel
theorem dX0_afterUntilDate_4 : decode cX0_afterUntilDate 4 = .ok (.bipush 6, 2) := by decide +kernel
theorem dX0_afterUntilDate_6 : decode cX0_afterUntilDate 6 = .ok (.iload_n 1, 1) := by decide +kernel
theorem dX0_afterUntilDate_7 : decode cX0_afterUntilDate 7 = .ok (.invokevirtual 117, 3) := by decide +kernel
theorem dX0_afterUntilDate_10 : decode cX0_afterUntilDate 10 = .ok (.bipush 14, 2) := by decide +kernel
theorem dX0_afterUntilDate_12 : decode cX0_afterUntilDate 12 = .ok (.ireturn, 1) := by decide +kernel
theorem dX1_init_0 : decode cX1_init 0 = .ok (.aload_n 0, 1) := by decide +kernel
theorem dX1_init_1 : decode cX1_init 1 = .ok (.invokespecial 3, 3) := by decide +kernel
theorem dX1_init_4 : decode cX1_init 4 = .ok (.aload_n 0, 1) := by decide +kernel
theorem dX1_init_5 : decode cX1_init 5 = .ok (.bipush 7, 2) := by decide +kernel
theorem dX1_init_7 : decode cX1_init 7 = .ok (.newarray .int, 2) := by decide +kernel
theorem dX1_init_9 : decode cX1_init 9 = .ok (.putfield 9, 3) := by decide +kernel
theorem dX1_init_12 : decode cX1_init 12 = .ok (.aload_n 0, 1) := by decide +kernel
theorem dX1_init_13 : decode cX1_init 13 = .ok (.bipush 7, 2) := by decide +kernel
theorem dX1_init_15 : decode cX1_init 15 = .ok (.newarray .int, 2) := by decide +kernel
theorem dX1_init_17 : decode cX1_init 17 = .ok (.putfield 15, 3) := by decide +kernel
theorem dX1_init_20 : decode cX1_init 20 = .ok (.return_, 1) := by decide +kernel
set_option maxRecDepth 20000 in
theorem ggX1_widen_X5_lowestOf : GoodIn wsX1_widen wsX5_lowestOf := goodIn_r _ [5] (by decide +kernel) (by decide +kernel)
set_option maxRecDepth 20000 in
theorem gX1_widen_X5_lowestOf_n18 : GoodIn wsX1_widen (wsX5_lowestOf) := ggX1_widen_X5_lowestOf
set_option maxRecDepth 20000 in
theorem ggX1_widen_X5_highestOf : GoodIn wsX1_widen wsX5_highestOf := goodIn_r _ [7, 8] (by decide +kernel) (by decide +kernel)
set_option maxRecDepth 20000 in
theorem gX1_widen_X5_highestOf_n22 : GoodIn wsX1_widen (wsX5_highestOf) := ggX1_widen_X5_highestOf
theorem dX1_widen_0 : decode cX1_widen 0 = .ok (.iconst 0, 1) := by decide +kernel
theorem dX1_widen_1 : decode cX1_widen 1 = .ok (.istore_n 1, 1) := by decide +kernel
theorem dX1_widen_2 : decode cX1_widen 2 = .ok (.iload_n 1, 1) := by decide +kernel
theorem dX1_widen_3 : decode cX1_widen 3 = .ok (.bipush 7, 2) := by decide +kernel
theorem dX1_widen_5 : decode cX1_widen 5 = .ok (.if_icmp .ge 29, 3) := by decide +kernel
theorem dX1_widen_8 : decode cX1_widen 8 = .ok (.aload_n 0, 1) := by decide +kernel
theorem dX1_widen_9 : decode cX1_widen 9 = .ok (.getfield 9, 3) := by decide +kernel
theorem dX1_widen_12 : decode cX1_widen 12 = .ok (.iload_n 1, 1) := by decide +kernel
theorem dX1_widen_13 : decode cX1_widen 13 = .ok (.iload_n 1, 1) := by decide +kernel
theorem dX1_widen_14 : decode cX1_widen 14 = .ok (.invokestatic 18, 3) := by decide +kernel
theorem dX1_widen_17 : decode cX1_widen 17 = .ok (.iastore, 1) := by decide +kernel
theorem dX1_widen_18 : decode cX1_widen 18 = .ok (.aload_n 0, 1) := by decide +kernel
theorem dX1_widen_19 : decode cX1_widen 19 = .ok (.getfield 15, 3) := by decide +kernel
theorem dX1_widen_22 : decode cX1_widen 22 = .ok (.iload_n 1, 1) := by decide +kernel
theorem dX1_widen_23 : decode cX1_widen 23 = .ok (.iload_n 1, 1) := by decide +kernel
theorem dX1_widen_24 : decode cX1_widen 24 = .ok (.invokestatic 22, 3) := by decide +kernel
theorem dX1_widen_27 : decode cX1_widen 27 = .ok (.iastore, 1) := by decide +kernel
theorem dX1_widen_28 : decode cX1_widen 28 = .ok (.iinc 1 1, 3) := by decide +kernel
theorem dX1_widen_31 : decode cX1_widen 31 = .ok (.goto (-29), 3) := by decide +kernel
theorem dX1_widen_34 : decode cX1_widen 34 = .ok (.return_, 1) := by decide +kernel
theorem dX1_copyFrom_0 : decode cX1_copyFrom 0 = .ok (.aload_n 1, 1) := by decide +kernel
theorem dX1_copyFrom_1 : decode cX1_copyFrom 1 = .ok (.getfield 9, 3) := by decide +kernel
theorem dX1_copyFrom_4 : decode cX1_copyFrom 4 = .ok (.iconst 0, 1) := by decide +kernel
theorem dX1_copyFrom_5 : decode cX1_copyFrom 5 = .ok (.aload_n 0, 1) := by decide +kernel
theorem dX1_copyFrom_6 : decode cX1_copyFrom 6 = .ok (.getfield 9, 3) := by decide +kernel
theorem dX1_copyFrom_9 : decode cX1_copyFrom 9 = .ok (.iconst 0, 1) := by decide +kernel
theorem dX1_copyFrom_10 : decode cX1_copyFrom 10 = .ok (.bipush 7, 2) := by decide +kernel
theorem dX1_copyFrom_12 : decode cX1_copyFrom 12 = .ok (.invokestatic 25, 3) := by decide +kernel
theorem dX1_copyFrom_15 : decode cX1_copyFrom 15 = .ok (.aload_n 1, 1) := by decide +kernel
theorem dX1_copyFrom_16 : decode cX1_copyFrom 16 = .ok (.getfield 15, 3) := by decide +kernel
theorem dX1_copyFrom_19 : decode cX1_copyFrom 19 = .ok (.iconst 0, 1) := by decide +kernel
theorem dX1_copyFrom_20 : decode cX1_copyFrom 20 = .ok (.aload_n 0, 1) := by decide +kernel
theorem dX1_copyFrom_21 : decode cX1_copyFrom 21 = .ok (.getfield 15, 3) := by decide +kernel
theorem dX1_copyFrom_24 : decode cX1_copyFrom 24 = .ok (.iconst 0, 1) := by decide +kernel
theorem dX1_copyFrom_25 : decode cX1_copyFrom 25 = .ok (.bipush 7, 2) := by decide +kernel
theorem dX1_copyFrom_27 : decode cX1_copyFrom 27 = .ok (.invokestatic 25, 3) := by decide +kernel
theorem dX1_copyFrom_30 : decode cX1_copyFrom 30 = .ok (.return_, 1) := by decide +kernel
set_option maxRecDepth 20000 in
theorem ggX1_keepFrom_X5_isFact : GoodIn wsX1_keepFrom wsX5_isFact := goodIn_r _ [8] (by decide +kernel) (by decide +kernel)
set_option maxRecDepth 20000 in
theorem gX1_keepFrom_X5_isFact_n31 : GoodIn wsX1_keepFrom (wsX5_isFact) := ggX1_keepFrom_X5_isFact
theorem dX1_keepFrom_0 : decode cX1_keepFrom 0 = .ok (.iload_n 1, 1) := by decide +kernel
theorem dX1_keepFrom_1 : decode cX1_keepFrom 1 = .ok (.invokestatic 31, 3) := by decide +kernel
theorem dX1_keepFrom_4 : decode cX1_keepFrom 4 = .ok (.ifCond .eq 19, 3) := by decide +kernel
theorem dX1_keepFrom_7 : decode cX1_keepFrom 7 = .ok (.aload_n 0, 1) := by decide +kernel
theorem dX1_keepFrom_8 : decode cX1_keepFrom 8 = .ok (.getfield 9, 3) := by decide +kernel
theorem dX1_keepFrom_11 : decode cX1_keepFrom 11 = .ok (.iload_n 1, 1) := by decide +kernel
theorem dX1_keepFrom_12 : decode cX1_keepFrom 12 = .ok (.aload_n 0, 1) := by decide +kernel
theorem dX1_keepFrom_13 : decode cX1_keepFrom 13 = .ok (.getfield 9, 3) := by decide +kernel
theorem dX1_keepFrom_16 : decode cX1_keepFrom 16 = .ok (.iload_n 1, 1) := by decide +kernel
theorem dX1_keepFrom_17 : decode cX1_keepFrom 17 = .ok (.iaload, 1) := by decide +kernel
theorem dX1_keepFrom_18 : decode cX1_keepFrom 18 = .ok (.iload_n 2, 1) := by decide +kernel
theorem dX1_keepFrom_19 : decode cX1_keepFrom 19 = .ok (.invokestatic 35, 3) := by decide +kernel
theorem dX1_keepFrom_22 : decode cX1_keepFrom 22 = .ok (.iastore, 1) := by decide +kernel
theorem dX1_keepFrom_23 : decode cX1_keepFrom 23 = .ok (.return_, 1) := by decide +kernel
set_option maxRecDepth 20000 in
theorem ggX1_keepUntil_X5_isFact : GoodIn wsX1_keepUntil wsX5_isFact := goodIn_r _ [8] (by decide +kernel) (by decide +kernel)
set_option maxRecDepth 20000 in
theorem gX1_keepUntil_X5_isFact_n31 : GoodIn wsX1_keepUntil (wsX5_isFact) := ggX1_keepUntil_X5_isFact
theorem dX1_keepUntil_0 : decode cX1_keepUntil 0 = .ok (.iload_n 1, 1) := by decide +kernel
theorem dX1_keepUntil_1 : decode cX1_keepUntil 1 = .ok (.invokestatic 31, 3) := by decide +kernel
theorem dX1_keepUntil_4 : decode cX1_keepUntil 4 = .ok (.ifCond .eq 19, 3) := by decide +kernel
theorem dX1_keepUntil_7 : decode cX1_keepUntil 7 = .ok (.aload_n 0, 1) := by decide +kernel
theorem dX1_keepUntil_8 : decode cX1_keepUntil 8 = .ok (.getfield 15, 3) := by decide +kernel
theorem dX1_keepUntil_11 : decode cX1_keepUntil 11 = .ok (.iload_n 1, 1) := by decide +kernel
theorem dX1_keepUntil_12 : decode cX1_keepUntil 12 = .ok (.aload_n 0, 1) := by decide +kernel
theorem dX1_keepUntil_13 : decode cX1_keepUntil 13 = .ok (.getfield 15, 3) := by decide +kernel
theorem dX1_keepUntil_16 : decode cX1_keepUntil 16 = .ok (.iload_n 1, 1) := by decide +kernel
theorem dX1_keepUntil_17 : decode cX1_keepUntil 17 = .ok (.iaload, 1) := by decide +kernel
theorem dX1_keepUntil_18 : decode cX1_keepUntil 18 = .ok (.iload_n 2, 1) := by decide +kernel
theorem dX1_keepUntil_19 : decode cX1_keepUntil 19 = .ok (.invokestatic 41, 3) := by decide +kernel
theorem dX1_keepUntil_22 : decode cX1_keepUntil 22 = .ok (.iastore, 1) := by decide +kernel
theorem dX1_keepUntil_23 : decode cX1_keepUntil 23 = .ok (.return_, 1) := by decide +kernel
set_option maxRecDepth 20000 in
theorem ggX1_narrowTo_X1_keepFrom : GoodIn wsX1_narrowTo wsX1_keepFrom := goodIn_r _ [7, 1, 8, 9, 10, 11, 12, 13, 14, 22, 23] (by decide +kernel) (by decide +kernel)
set_option maxRecDepth 20000 in
theorem gX1_narrowTo_X1_keepFrom : GoodIn wsX1_narrowTo (wsV RX1 44 RX1 yX1_keepFrom wsX1_keepFrom) := goodIn_app (goodIn_of _ (by decide +kernel)) ggX1_narrowTo_X1_keepFrom
set_option maxRecDepth 20000 in
theorem ggX1_narrowTo_X1_keepUntil : GoodIn wsX1_narrowTo wsX1_keepUntil := goodIn_r _ [18, 2, 19, 20, 10, 21, 12, 13, 14, 22, 23] (by decide +kernel) (by decide +kernel)
set_option maxRecDepth 20000 in
theorem gX1_narrowTo_X1_keepUntil : GoodIn wsX1_narrowTo (wsV RX1 48 RX1 yX1_keepUntil wsX1_keepUntil) := goodIn_app (goodIn_of _ (by decide +kernel)) ggX1_narrowTo_X1_keepUntil
theorem dX1_narrowTo_0 : decode cX1_narrowTo 0 = .ok (.iconst 0, 1) := by decide +kernel
theorem dX1_narrowTo_1 : decode cX1_narrowTo 1 = .ok (.istore_n 2, 1) := by decide +kernel
theorem dX1_narrowTo_2 : decode cX1_narrowTo 2 = .ok (.iload_n 2, 1) := by decide +kernel
theorem dX1_narrowTo_3 : decode cX1_narrowTo 3 = .ok (.bipush 7, 2) := by decide +kernel
theorem dX1_narrowTo_5 : decode cX1_narrowTo 5 = .ok (.if_icmp .ge 31, 3) := by decide +kernel
theorem dX1_narrowTo_8 : decode cX1_narrowTo 8 = .ok (.aload_n 0, 1) := by decide +kernel
theorem dX1_narrowTo_9 : decode cX1_narrowTo 9 = .ok (.iload_n 2, 1) := by decide +kernel
theorem dX1_narrowTo_10 : decode cX1_narrowTo 10 = .ok (.aload_n 1, 1) := by decide +kernel
theorem dX1_narrowTo_11 : decode cX1_narrowTo 11 = .ok (.getfield 9, 3) := by decide +kernel
theorem dX1_narrowTo_14 : decode cX1_narrowTo 14 = .ok (.iload_n 2, 1) := by decide +kernel
theorem dX1_narrowTo_15 : decode cX1_narrowTo 15 = .ok (.iaload, 1) := by decide +kernel
theorem dX1_narrowTo_16 : decode cX1_narrowTo 16 = .ok (.invokevirtual 44, 3) := by decide +kernel
theorem dX1_narrowTo_19 : decode cX1_narrowTo 19 = .ok (.aload_n 0, 1) := by decide +kernel
theorem dX1_narrowTo_20 : decode cX1_narrowTo 20 = .ok (.iload_n 2, 1) := by decide +kernel
theorem dX1_narrowTo_21 : decode cX1_narrowTo 21 = .ok (.aload_n 1, 1) := by decide +kernel
theorem dX1_narrowTo_22 : decode cX1_narrowTo 22 = .ok (.getfield 15, 3) := by decide +kernel
theorem dX1_narrowTo_25 : decode cX1_narrowTo 25 = .ok (.iload_n 2, 1) := by decide +kernel
theorem dX1_narrowTo_26 : decode cX1_narrowTo 26 = .ok (.iaload, 1) := by decide +kernel
theorem dX1_narrowTo_27 : decode cX1_narrowTo 27 = .ok (.invokevirtual 48, 3) := by decide +kernel
theorem dX1_narrowTo_30 : decode cX1_narrowTo 30 = .ok (.iinc 2 1, 3) := by decide +kernel
theorem dX1_narrowTo_33 : decode cX1_narrowTo 33 = .ok (.goto (-31), 3) := by decide +kernel
theorem dX1_narrowTo_36 : decode cX1_narrowTo 36 = .ok (.return_, 1) := by decide +kernel
theorem dX1_isEmpty_0 : decode cX1_isEmpty 0 = .ok (.iconst 0, 1) := by decide +kernel
theorem dX1_isEmpty_1 : decode cX1_isEmpty 1 = .ok (.istore_n 1, 1) := by decide +kernel
theorem dX1_isEmpty_2 : decode cX1_isEmpty 2 = .ok (.iload_n 1, 1) := by decide +kernel
theorem dX1_isEmpty_3 : decode cX1_isEmpty 3 = .ok (.bipush 7, 2) := by decide +kernel
theorem dX1_isEmpty_5 : decode cX1_isEmpty 5 = .ok (.if_icmp .ge 26, 3) := by decide +kernel
theorem dX1_isEmpty_8 : decode cX1_isEmpty 8 = .ok (.aload_n 0, 1) := by decide +kernel
theorem dX1_isEmpty_9 : decode cX1_isEmpty 9 = .ok (.getfield 9, 3) := by decide +kernel
theorem dX1_isEmpty_12 : decode cX1_isEmpty 12 = .ok (.iload_n 1, 1) := by decide +kernel
theorem dX1_isEmpty_13 : decode cX1_isEmpty 13 = .ok (.iaload, 1) := by decide +kernel
theorem dX1_isEmpty_14 : decode cX1_isEmpty 14 = .ok (.aload_n 0, 1) := by decide +kernel
theorem dX1_isEmpty_15 : decode cX1_isEmpty 15 = .ok (.getfield 15, 3) := by decide +kernel
theorem dX1_isEmpty_18 : decode cX1_isEmpty 18 = .ok (.iload_n 1, 1) := by decide +kernel
theorem dX1_isEmpty_19 : decode cX1_isEmpty 19 = .ok (.iaload, 1) := by decide +kernel
theorem dX1_isEmpty_20 : decode cX1_isEmpty 20 = .ok (.if_icmp .le 5, 3) := by decide +kernel
theorem dX1_isEmpty_23 : decode cX1_isEmpty 23 = .ok (.iconst 1, 1) := by decide +kernel
theorem dX1_isEmpty_24 : decode cX1_isEmpty 24 = .ok (.ireturn, 1) := by decide +kernel
theorem dX1_isEmpty_25 : decode cX1_isEmpty 25 = .ok (.iinc 1 1, 3) := by decide +kernel
theorem dX1_isEmpty_28 : decode cX1_isEmpty 28 = .ok (.goto (-26), 3) := by decide +kernel
theorem dX1_isEmpty_31 : decode cX1_isEmpty 31 = .ok (.iconst 0, 1) := by decide +kernel
theorem dX1_isEmpty_32 : decode cX1_isEmpty 32 = .ok (.ireturn, 1) := by decide +kernel
theorem dX1_hasValues_0 : decode cX1_hasValues 0 = .ok (.iconst 0, 1) := by decide +kernel
theorem dX1_hasValues_1 : decode cX1_hasValues 1 = .ok (.istore_n 2, 1) := by decide +kernel
theorem dX1_hasValues_2 : decode cX1_hasValues 2 = .ok (.iload_n 2, 1) := by decide +kernel
theorem dX1_hasValues_3 : decode cX1_hasValues 3 = .ok (.bipush 7, 2) := by decide +kernel
theorem dX1_hasValues_5 : decode cX1_hasValues 5 = .ok (.if_icmp .ge 41, 3) := by decide +kernel
theorem dX1_hasValues_8 : decode cX1_hasValues 8 = .ok (.iload_n 2, 1) := by decide +kernel
theorem dX1_hasValues_9 : decode cX1_hasValues 9 = .ok (.aload_n 1, 1) := by decide +kernel
theorem dX1_hasValues_10 : decode cX1_hasValues 10 = .ok (.arraylength, 1) := by decide +kernel
theorem dX1_hasValues_11 : decode cX1_hasValues 11 = .ok (.if_icmp .ge 35, 3) := by decide +kernel
theorem dX1_hasValues_14 : decode cX1_hasValues 14 = .ok (.aload_n 1, 1) := by decide +kernel
theorem dX1_hasValues_15 : decode cX1_hasValues 15 = .ok (.iload_n 2, 1) := by decide +kernel
theorem dX1_hasValues_16 : decode cX1_hasValues 16 = .ok (.iaload, 1) := by decide +kernel
theorem dX1_hasValues_17 : decode cX1_hasValues 17 = .ok (.aload_n 0, 1) := by decide +kernel
theorem dX1_hasValues_18 : decode cX1_hasValues 18 = .ok (.getfield 9, 3) := by decide +kernel
theorem dX1_hasValues_21 : decode cX1_hasValues 21 = .ok (.iload_n 2, 1) := by decide +kernel
theorem dX1_hasValues_22 : decode cX1_hasValues 22 = .ok (.iaload, 1) := by decide +kernel
theorem dX1_hasValues_23 : decode cX1_hasValues 23 = .ok (.if_icmp .lt 15, 3) := by decide +kernel
theorem dX1_hasValues_26 : decode cX1_hasValues 26 = .ok (.aload_n 1, 1) := by decide +kernel
theorem dX1_hasValues_27 : decode cX1_hasValues 27 = .ok (.iload_n 2, 1) := by decide +kernel
theorem dX1_hasValues_28 : decode cX1_hasValues 28 = .ok (.iaload, 1) := by decide +kernel
theorem dX1_hasValues_29 : decode cX1_hasValues 29 = .ok (.aload_n 0, 1) := by decide +kernel
theorem dX1_hasValues_30 : decode cX1_hasValues 30 = .ok (.getfield 15, 3) := by decide +kernel
theorem dX1_hasValues_33 : decode cX1_hasValues 33 = .ok (.iload_n 2, 1) := by decide +kernel
theorem dX1_hasValues_34 : decode cX1_hasValues 34 = .ok (.iaload, 1) := by decide +kernel
theorem dX1_hasValues_35 : decode cX1_hasValues 35 = .ok (.if_icmp .le 5, 3) := by decide +kernel
theorem dX1_hasValues_38 : decode cX1_hasValues 38 = .ok (.iconst 0, 1) := by decide +kernel
theorem dX1_hasValues_39 : decode cX1_hasValues 39 = .ok (.ireturn, 1) := by decide +kernel
theorem dX1_hasValues_40 : decode cX1_hasValues 40 = .ok (.iinc 2 1, 3) := by decide +kernel
theorem dX1_hasValues_43 : decode cX1_hasValues 43 = .ok (.goto (-41), 3) := by decide +kernel
theorem dX1_hasValues_46 : decode cX1_hasValues 46 = .ok (.iconst 1, 1) := by decide +kernel
theorem dX1_hasValues_47 : decode cX1_hasValues 47 = .ok (.ireturn, 1) := by decide +kernel
theorem dX1_isInside_0 : decode cX1_isInside 0 = .ok (.iconst 0, 1) := by decide +kernel
theorem dX1_isInside_1 : decode cX1_isInside 1 = .ok (.istore_n 2, 1) := by decide +kernel
theorem dX1_isInside_2 : decode cX1_isInside 2 = .ok (.iload_n 2, 1) := by decide +kernel
theorem dX1_isInside_3 : decode cX1_isInside 3 = .ok (.bipush 7, 2) := by decide +kernel
theorem dX1_isInside_5 : decode cX1_isInside 5 = .ok (.if_icmp .ge 41, 3) := by decide +kernel
theorem dX1_isInside_8 : decode cX1_isInside 8 = .ok (.aload_n 0, 1) := by decide +kernel
theorem dX1_isInside_9 : decode cX1_isInside 9 = .ok (.getfield 9, 3) := by decide +kernel
theorem dX1_isInside_12 : decode cX1_isInside 12 = .ok (.iload_n 2, 1) := by decide +kernel
theorem dX1_isInside_13 : decode cX1_isInside 13 = .ok (.iaload, 1) := by decide +kernel
theorem dX1_isInside_14 : decode cX1_isInside 14 = .ok (.aload_n 1, 1) := by decide +kernel
theorem dX1_isInside_15 : decode cX1_isInside 15 = .ok (.getfield 9, 3) := by decide +kernel
theorem dX1_isInside_18 : decode cX1_isInside 18 = .ok (.iload_n 2, 1) := by decide +kernel
theorem dX1_isInside_19 : decode cX1_isInside 19 = .ok (.iaload, 1) := by decide +kernel
theorem dX1_isInside_20 : decode cX1_isInside 20 = .ok (.if_icmp .lt 18, 3) := by decide +kernel
theorem dX1_isInside_23 : decode cX1_isInside 23 = .ok (.aload_n 0, 1) := by decide +kernel
theorem dX1_isInside_24 : decode cX1_isInside 24 = .ok (.getfield 15, 3) := by decide +kernel
theorem dX1_isInside_27 : decode cX1_isInside 27 = .ok (.iload_n 2, 1) := by decide +kernel
theorem dX1_isInside_28 : decode cX1_isInside 28 = .ok (.iaload, 1) := by decide +kernel
theorem dX1_isInside_29 : decode cX1_isInside 29 = .ok (.aload_n 1, 1) := by decide +kernel
theorem dX1_isInside_30 : decode cX1_isInside 30 = .ok (.getfield 15, 3) := by decide +kernel
theorem dX1_isInside_33 : decode cX1_isInside 33 = .ok (.iload_n 2, 1) := by decide +kernel
theorem dX1_isInside_34 : decode cX1_isInside 34 = .ok (.iaload, 1) := by decide +kernel
theorem dX1_isInside_35 : decode cX1_isInside 35 = .ok (.if_icmp .le 5, 3) := by decide +kernel
theorem dX1_isInside_38 : decode cX1_isInside 38 = .ok (.iconst 0, 1) := by decide +kernel
theorem dX1_isInside_39 : decode cX1_isInside 39 = .ok (.ireturn, 1) := by decide +kernel
theorem dX1_isInside_40 : decode cX1_isInside 40 = .ok (.iinc 2 1, 3) := by decide +kernel
theorem dX1_isInside_43 : decode cX1_isInside 43 = .ok (.goto (-41), 3) := by decide +kernel
theorem dX1_isInside_46 : decode cX1_isInside 46 = .ok (.iconst 1, 1) := by decide +kernel
theorem dX1_isInside_47 : decode cX1_isInside 47 = .ok (.ireturn, 1) := by decide +kernel
set_option maxRecDepth 20000 in
theorem ggX1_isSameAs_X1_isInside : GoodIn wsX1_isSameAs wsX1_isInside := goodIn_r _ [5, 6, 7, 8, 9] (by decide +kernel) (by decide +kernel)
set_option maxRecDepth 20000 in
theorem gX1_isSameAs_X1_isInside : GoodIn wsX1_isSameAs (wsV RX1 51 RX1 yX1_isInside wsX1_isInside) := goodIn_app (goodIn_of _ (by decide +kernel)) ggX1_isSameAs_X1_isInside
theorem dX1_isSameAs_0 : decode cX1_isSameAs 0 = .ok (.aload_n 0, 1) := by decide +kernel
theorem dX1_isSameAs_1 : decode cX1_isSameAs 1 = .ok (.aload_n 1, 1) := by decide +kernel
theorem dX1_isSameAs_2 : decode cX1_isSameAs 2 = .ok (.invokevirtual 51, 3) := by decide +kernel
theorem dX1_isSameAs_5 : decode cX1_isSameAs 5 = .ok (.ifCond .eq 15, 3) := by decide +kernel
theorem dX1_isSameAs_8 : decode cX1_isSameAs 8 = .ok (.aload_n 1, 1) := by decide +kernel
theorem dX1_isSameAs_9 : decode cX1_isSameAs 9 = .ok (.aload_n 0, 1) := by decide +kernel
theorem dX1_isSameAs_10 : decode cX1_isSameAs 10 = .ok (.invokevirtual 51, 3) := by decide +kernel
theorem dX1_isSameAs_13 : decode cX1_isSameAs 13 = .ok (.ifCond .eq 7, 3) := by decide +kernel
theorem dX1_isSameAs_16 : decode cX1_isSameAs 16 = .ok (.iconst 1, 1) := by decide +kernel
theorem dX1_isSameAs_17 : decode cX1_isSameAs 17 = .ok (.goto 4, 3) := by decide +kernel
theorem dX1_isSameAs_20 : decode cX1_isSameAs 20 = .ok (.iconst 0, 1) := by decide +kernel
theorem dX1_isSameAs_21 : decode cX1_isSameAs 21 = .ok (.ireturn, 1) := by decide +kernel
set_option maxRecDepth 20000 in
theorem ggX1_isStrictlyInside_X1_isInside : GoodIn wsX1_isStrictlyInside wsX1_isInside := goodIn_r _ [5, 6, 7, 8, 9] (by decide +kernel) (by decide +kernel)
set_option maxRecDepth 20000 in
theorem gX1_isStrictlyInside_X1_isInside : GoodIn wsX1_isStrictlyInside (wsV RX1 51 RX1 yX1_isInside wsX1_isInside) := goodIn_app (goodIn_of _ (by decide +kernel)) ggX1_isStrictlyInside_X1_isInside
theorem dX1_isStrictlyInside_0 : decode cX1_isStrictlyInside 0 = .ok (.aload_n 0, 1) := by decide +kernel
theorem dX1_isStrictlyInside_1 : decode cX1_isStrictlyInside 1 = .ok (.aload_n 1, 1) := by decide +kernel
theorem dX1_isStrictlyInside_2 : decode cX1_isStrictlyInside 2 = .ok (.invokevirtual 51, 3) := by decide +kernel
theorem dX1_isStrictlyInside_5 : decode cX1_isStrictlyInside 5 = .ok (.ifCond .eq 15, 3) := by decide +kernel
theorem dX1_isStrictlyInside_8 : decode cX1_isStrictlyInside 8 = .ok (.aload_n 1, 1) := by decide +kernel
theorem dX1_isStrictlyInside_9 : decode cX1_isStrictlyInside 9 = .ok (.aload_n 0, 1) := by decide +kernel
theorem dX1_isStrictlyInside_10 : decode cX1_isStrictlyInside 10 = .ok (.invokevirtual 51, 3) := by decide +kernel
theorem dX1_isStrictlyInside_13 : decode cX1_isStrictlyInside 13 = .ok (.ifCond .ne 7, 3) := by decide +kernel
theorem dX1_isStrictlyInside_16 : decode cX1_isStrictlyInside 16 = .ok (.iconst 1, 1) := by decide +kernel
theorem dX1_isStrictlyInside_17 : decode cX1_isStrictlyInside 17 = .ok (.goto 4, 3) := by decide +kernel
theorem dX1_isStrictlyInside_20 : decode cX1_isStrictlyInside 20 = .ok (.iconst 0, 1) := by decide +kernel
theorem dX1_isStrictlyInside_21 : decode cX1_isStrictlyInside 21 = .ok (.ireturn, 1) := by decide +kernel
theorem dX1_meets_0 : decode cX1_meets 0 = .ok (.iconst 0, 1) := by decide +kernel
theorem dX1_meets_1 : decode cX1_meets 1 = .ok (.istore_n 2, 1) := by decide +kernel
theorem dX1_meets_2 : decode cX1_meets 2 = .ok (.iload_n 2, 1) := by decide +kernel
theorem dX1_meets_3 : decode cX1_meets 3 = .ok (.bipush 7, 2) := by decide +kernel
theorem dX1_meets_5 : decode cX1_meets 5 = .ok (.if_icmp .ge 44, 3) := by decide +kernel
theorem dX1_meets_8 : decode cX1_meets 8 = .ok (.aload_n 0, 1) := by decide +kernel
theorem dX1_meets_9 : decode cX1_meets 9 = .ok (.getfield 9, 3) := by decide +kernel
theorem dX1_meets_12 : decode cX1_meets 12 = .ok (.iload_n 2, 1) := by decide +kernel
theorem dX1_meets_13 : decode cX1_meets 13 = .ok (.iaload, 1) := by decide +kernel
theorem dX1_meets_14 : decode cX1_meets 14 = .ok (.aload_n 1, 1) := by decide +kernel
theorem dX1_meets_15 : decode cX1_meets 15 = .ok (.getfield 9, 3) := by decide +kernel
theorem dX1_meets_18 : decode cX1_meets 18 = .ok (.iload_n 2, 1) := by decide +kernel
theorem dX1_meets_19 : decode cX1_meets 19 = .ok (.iaload, 1) := by decide +kernel
theorem dX1_meets_20 : decode cX1_meets 20 = .ok (.invokestatic 35, 3) := by decide +kernel
theorem dX1_meets_23 : decode cX1_meets 23 = .ok (.aload_n 0, 1) := by decide +kernel
theorem dX1_meets_24 : decode cX1_meets 24 = .ok (.getfield 15, 3) := by decide +kernel
theorem dX1_meets_27 : decode cX1_meets 27 = .ok (.iload_n 2, 1) := by decide +kernel
theorem dX1_meets_28 : decode cX1_meets 28 = .ok (.iaload, 1) := by decide +kernel
theorem dX1_meets_29 : decode cX1_meets 29 = .ok (.aload_n 1, 1) := by decide +kernel
theorem dX1_meets_30 : decode cX1_meets 30 = .ok (.getfield 15, 3) := by decide +kernel
theorem dX1_meets_33 : decode cX1_meets 33 = .ok (.iload_n 2, 1) := by decide +kernel
theorem dX1_meets_34 : decode cX1_meets 34 = .ok (.iaload, 1) := by decide +kernel
theorem dX1_meets_35 : decode cX1_meets 35 = .ok (.invokestatic 41, 3) := by decide +kernel
theorem dX1_meets_38 : decode cX1_meets 38 = .ok (.if_icmp .le 5, 3) := by decide +kernel
theorem dX1_meets_41 : decode cX1_meets 41 = .ok (.iconst 0, 1) := by decide +kernel
theorem dX1_meets_42 : decode cX1_meets 42 = .ok (.ireturn, 1) := by decide +kernel
theorem dX1_meets_43 : decode cX1_meets 43 = .ok (.iinc 2 1, 3) := by decide +kernel
theorem dX1_meets_46 : decode cX1_meets 46 = .ok (.goto (-44), 3) := by decide +kernel
theorem dX1_meets_49 : decode cX1_meets 49 = .ok (.iconst 1, 1) := by decide +kernel
theorem dX1_meets_50 : decode cX1_meets 50 = .ok (.ireturn, 1) := by decide +kernel
theorem dX1_isCommonTo_0 : decode cX1_isCommonTo 0 = .ok (.iconst 0, 1) := by decide +kernel
theorem dX1_isCommonTo_1 : decode cX1_isCommonTo 1 = .ok (.istore_n 3, 1) := by decide +kernel
theorem dX1_isCommonTo_2 : decode cX1_isCommonTo 2 = .ok (.iload_n 3, 1) := by decide +kernel
theorem dX1_isCommonTo_3 : decode cX1_isCommonTo 3 = .ok (.bipush 7, 2) := by decide +kernel
theorem dX1_isCommonTo_5 : decode cX1_isCommonTo 5 = .ok (.if_icmp .ge 59, 3) := by decide +kernel
theorem dX1_isCommonTo_8 : decode cX1_isCommonTo 8 = .ok (.aload_n 0, 1) := by decide +kernel
theorem dX1_isCommonTo_9 : decode cX1_isCommonTo 9 = .ok (.getfield 9, 3) := by decide +kernel
theorem dX1_isCommonTo_12 : decode cX1_isCommonTo 12 = .ok (.iload_n 3, 1) := by decide +kernel
theorem dX1_isCommonTo_13 : decode cX1_isCommonTo 13 = .ok (.iaload, 1) := by decide +kernel
theorem dX1_isCommonTo_14 : decode cX1_isCommonTo 14 = .ok (.aload_n 1, 1) := by decide +kernel
theorem dX1_isCommonTo_15 : decode cX1_isCommonTo 15 = .ok (.getfield 9, 3) := by decide +kernel
theorem dX1_isCommonTo_18 : decode cX1_isCommonTo 18 = .ok (.iload_n 3, 1) := by decide +kernel
theorem dX1_isCommonTo_19 : decode cX1_isCommonTo 19 = .ok (.iaload, 1) := by decide +kernel
theorem dX1_isCommonTo_20 : decode cX1_isCommonTo 20 = .ok (.aload_n 2, 1) := by decide +kernel
theorem dX1_isCommonTo_21 : decode cX1_isCommonTo 21 = .ok (.getfield 9, 3) := by decide +kernel
theorem dX1_isCommonTo_24 : decode cX1_isCommonTo 24 = .ok (.iload_n 3, 1) := by decide +kernel
theorem dX1_isCommonTo_25 : decode cX1_isCommonTo 25 = .ok (.iaload, 1) := by decide +kernel
theorem dX1_isCommonTo_26 : decode cX1_isCommonTo 26 = .ok (.invokestatic 35, 3) := by decide +kernel
theorem dX1_isCommonTo_29 : decode cX1_isCommonTo 29 = .ok (.if_icmp .ne 27, 3) := by decide +kernel
theorem dX1_isCommonTo_32 : decode cX1_isCommonTo 32 = .ok (.aload_n 0, 1) := by decide +kernel
theorem dX1_isCommonTo_33 : decode cX1_isCommonTo 33 = .ok (.getfield 15, 3) := by decide +kernel
theorem dX1_isCommonTo_36 : decode cX1_isCommonTo 36 = .ok (.iload_n 3, 1) := by decide +kernel
theorem dX1_isCommonTo_37 : decode cX1_isCommonTo 37 = .ok (.iaload, 1) := by decide +kernel
theorem dX1_isCommonTo_38 : decode cX1_isCommonTo 38 = .ok (.aload_n 1, 1) := by decide +kernel
theorem dX1_isCommonTo_39 : decode cX1_isCommonTo 39 = .ok (.getfield 15, 3) := by decide +kernel
theorem dX1_isCommonTo_42 : decode cX1_isCommonTo 42 = .ok (.iload_n 3, 1) := by decide +kernel
theorem dX1_isCommonTo_43 : decode cX1_isCommonTo 43 = .ok (.iaload, 1) := by decide +kernel
theorem dX1_isCommonTo_44 : decode cX1_isCommonTo 44 = .ok (.aload_n 2, 1) := by decide +kernel
theorem dX1_isCommonTo_45 : decode cX1_isCommonTo 45 = .ok (.getfield 15, 3) := by decide +kernel
theorem dX1_isCommonTo_48 : decode cX1_isCommonTo 48 = .ok (.iload_n 3, 1) := by decide +kernel
theorem dX1_isCommonTo_49 : decode cX1_isCommonTo 49 = .ok (.iaload, 1) := by decide +kernel
theorem dX1_isCommonTo_50 : decode cX1_isCommonTo 50 = .ok (.invokestatic 41, 3) := by decide +kernel
theorem dX1_isCommonTo_53 : decode cX1_isCommonTo 53 = .ok (.if_icmp .eq 5, 3) := by decide +kernel
theorem dX1_isCommonTo_56 : decode cX1_isCommonTo 56 = .ok (.iconst 0, 1) := by decide +kernel
theorem dX1_isCommonTo_57 : decode cX1_isCommonTo 57 = .ok (.ireturn, 1) := by decide +kernel
theorem dX1_isCommonTo_58 : decode cX1_isCommonTo 58 = .ok (.iinc 3 1, 3) := by decide +kernel
theorem dX1_isCommonTo_61 : decode cX1_isCommonTo 61 = .ok (.goto (-59), 3) := by decide +kernel
theorem dX1_isCommonTo_64 : decode cX1_isCommonTo 64 = .ok (.iconst 1, 1) := by decide +kernel
theorem dX1_isCommonTo_65 : decode cX1_isCommonTo 65 = .ok (.ireturn, 1) := by decide +kernel
set_option maxRecDepth 20000 in
theorem ggX1_limitedFacts_X5_lowestOf : GoodIn wsX1_limitedFacts wsX5_lowestOf := goodIn_r _ [5] (by decide +kernel) (by decide +kernel)
set_option maxRecDepth 20000 in
theorem gX1_limitedFacts_X5_lowestOf_n18 : GoodIn wsX1_limitedFacts (wsX5_lowestOf) := ggX1_limitedFacts_X5_lowestOf
set_option maxRecDepth 20000 in
theorem ggX1_limitedFacts_X5_highestOf : GoodIn wsX1_limitedFacts wsX5_highestOf := goodIn_r _ [7, 8] (by decide +kernel) (by decide +kernel)
set_option maxRecDepth 20000 in
theorem gX1_limitedFacts_X5_highestOf_n22 : GoodIn wsX1_limitedFacts (wsX5_highestOf) := ggX1_limitedFacts_X5_highestOf
theorem dX1_limitedFacts_0 : decode cX1_limitedFacts 0 = .ok (.iconst 0, 1) := by decide +kernel
theorem dX1_limitedFacts_1 : decode cX1_limitedFacts 1 = .ok (.istore_n 1, 1) := by decide +kernel
theorem dX1_limitedFacts_2 : decode cX1_limitedFacts 2 = .ok (.iconst 0, 1) := by decide +kernel
theorem dX1_limitedFacts_3 : decode cX1_limitedFacts 3 = .ok (.istore_n 2, 1) := by decide +kernel
theorem dX1_limitedFacts_4 : decode cX1_limitedFacts 4 = .ok (.iload_n 2, 1) := by decide +kernel
theorem dX1_limitedFacts_5 : decode cX1_limitedFacts 5 = .ok (.bipush 7, 2) := by decide +kernel
theorem dX1_limitedFacts_7 : decode cX1_limitedFacts 7 = .ok (.if_icmp .ge 38, 3) := by decide +kernel
theorem dX1_limitedFacts_10 : decode cX1_limitedFacts 10 = .ok (.aload_n 0, 1) := by decide +kernel
theorem dX1_limitedFacts_11 : decode cX1_limitedFacts 11 = .ok (.getfield 9, 3) := by decide +kernel
theorem dX1_limitedFacts_14 : decode cX1_limitedFacts 14 = .ok (.iload_n 2, 1) := by decide +kernel
theorem dX1_limitedFacts_15 : decode cX1_limitedFacts 15 = .ok (.iaload, 1) := by decide +kernel
theorem dX1_limitedFacts_16 : decode cX1_limitedFacts 16 = .ok (.iload_n 2, 1) := by decide +kernel
theorem dX1_limitedFacts_17 : decode cX1_limitedFacts 17 = .ok (.invokestatic 18, 3) := by decide +kernel
theorem dX1_limitedFacts_20 : decode cX1_limitedFacts 20 = .ok (.if_icmp .ne 16, 3) := by decide +kernel
theorem dX1_limitedFacts_23 : decode cX1_limitedFacts 23 = .ok (.aload_n 0, 1) := by decide +kernel
theorem dX1_limitedFacts_24 : decode cX1_limitedFacts 24 = .ok (.getfield 15, 3) := by decide +kernel
theorem dX1_limitedFacts_27 : decode cX1_limitedFacts 27 = .ok (.iload_n 2, 1) := by decide +kernel
theorem dX1_limitedFacts_28 : decode cX1_limitedFacts 28 = .ok (.iaload, 1) := by decide +kernel
theorem dX1_limitedFacts_29 : decode cX1_limitedFacts 29 = .ok (.iload_n 2, 1) := by decide +kernel
theorem dX1_limitedFacts_30 : decode cX1_limitedFacts 30 = .ok (.invokestatic 22, 3) := by decide +kernel
theorem dX1_limitedFacts_33 : decode cX1_limitedFacts 33 = .ok (.if_icmp .eq 6, 3) := by decide +kernel
theorem dX1_limitedFacts_36 : decode cX1_limitedFacts 36 = .ok (.iinc 1 1, 3) := by decide +kernel
theorem dX1_limitedFacts_39 : decode cX1_limitedFacts 39 = .ok (.iinc 2 1, 3) := by decide +kernel
theorem dX1_limitedFacts_42 : decode cX1_limitedFacts 42 = .ok (.goto (-38), 3) := by decide +kernel
theorem dX1_limitedFacts_45 : decode cX1_limitedFacts 45 = .ok (.iload_n 1, 1) := by decide +kernel
theorem dX1_limitedFacts_46 : decode cX1_limitedFacts 46 = .ok (.ireturn, 1) := by decide +kernel
set_option maxRecDepth 20000 in
theorem ggX2_init_X1_init : GoodIn wsX2_init wsX1_init := goodIn_r _ [17, 18, 2, 3, 19, 20, 21, 30, 31] (by decide +kernel) (by decide +kernel)
set_option maxRecDepth 20000 in
theorem gX2_init_X1_init_n11 : GoodIn wsX2_init (wsX1_init) := ggX2_init_X1_init
set_option maxRecDepth 20000 in
theorem ggX2_init_X1_copyFrom : GoodIn wsX2_init wsX1_copyFrom := goodIn_r _ [25, 20, 26, 27, 28, 29, 21, 30, 31] (by decide +kernel) (by decide +kernel)
set_option maxRecDepth 20000 in
theorem gX2_init_X1_copyFrom : GoodIn wsX2_init (wsV RX2 25 RX1 yX1_copyFrom wsX1_copyFrom) := goodIn_app (goodIn_of _ (by decide +kernel)) ggX2_init_X1_copyFrom
theorem dX2_init_0 : decode cX2_init 0 = .ok (.aload_n 0, 1) := by decide +kernel
theorem dX2_init_1 : decode cX2_init 1 = .ok (.invokespecial 3, 3) := by decide +kernel
theorem dX2_init_4 : decode cX2_init 4 = .ok (.aload_n 0, 1) := by decide +kernel
theorem dX2_init_5 : decode cX2_init 5 = .ok (.new 9, 3) := by decide +kernel
theorem dX2_init_8 : decode cX2_init 8 = .ok (.dup, 1) := by decide +kernel
theorem dX2_init_9 : decode cX2_init 9 = .ok (.invokespecial 11, 3) := by decide +kernel
theorem dX2_init_12 : decode cX2_init 12 = .ok (.putfield 12, 3) := by decide +kernel
theorem dX2_init_15 : decode cX2_init 15 = .ok (.aload_n 0, 1) := by decide +kernel
theorem dX2_init_16 : decode cX2_init 16 = .ok (.aload_n 1, 1) := by decide +kernel
theorem dX2_init_17 : decode cX2_init 17 = .ok (.putfield 18, 3) := by decide +kernel
theorem dX2_init_20 : decode cX2_init 20 = .ok (.aload_n 0, 1) := by decide +kernel
theorem dX2_init_21 : decode cX2_init 21 = .ok (.getfield 12, 3) := by decide +kernel
theorem dX2_init_24 : decode cX2_init 24 = .ok (.aload_n 2, 1) := by decide +kernel
theorem dX2_init_25 : decode cX2_init 25 = .ok (.getfield 22, 3) := by decide +kernel
theorem dX2_init_28 : decode cX2_init 28 = .ok (.invokevirtual 25, 3) := by decide +kernel
theorem dX2_init_31 : decode cX2_init 31 = .ok (.aload_n 0, 1) := by decide +kernel
theorem dX2_init_32 : decode cX2_init 32 = .ok (.aload_n 2, 1) := by decide +kernel
theorem dX2_init_33 : decode cX2_init 33 = .ok (.getfield 29, 3) := by decide +kernel
theorem dX2_init_36 : decode cX2_init 36 = .ok (.putfield 33, 3) := by decide +kernel
theorem dX2_init_39 : decode cX2_init 39 = .ok (.aload_n 0, 1) := by decide +kernel
theorem dX2_init_40 : decode cX2_init 40 = .ok (.aload_n 2, 1) := by decide +kernel
theorem dX2_init_41 : decode cX2_init 41 = .ok (.getfield 34, 3) := by decide +kernel
theorem dX2_init_44 : decode cX2_init 44 = .ok (.putfield 37, 3) := by decide +kernel
theorem dX2_init_47 : decode cX2_init 47 = .ok (.aload_n 0, 1) := by decide +kernel
theorem dX2_init_48 : decode cX2_init 48 = .ok (.aload_n 2, 1) := by decide +kernel
theorem dX2_init_49 : decode cX2_init 49 = .ok (.getfield 38, 3) := by decide +kernel
theorem dX2_init_52 : decode cX2_init 52 = .ok (.putfield 41, 3) := by decide +kernel
theorem dX2_init_55 : decode cX2_init 55 = .ok (.return_, 1) := by decide +kernel
theorem dX2_isDefinition_0 : decode cX2_isDefinition 0 = .ok (.aload_n 0, 1) := by decide +kernel
theorem dX2_isDefinition_1 : decode cX2_isDefinition 1 = .ok (.getfield 33, 3) := by decide +kernel
theorem dX2_isDefinition_4 : decode cX2_isDefinition 4 = .ok (.bipush 10, 2) := by decide +kernel
theorem dX2_isDefinition_6 : decode cX2_isDefinition 6 = .ok (.if_icmp .lt 7, 3) := by decide +kernel
theorem dX2_isDefinition_9 : decode cX2_isDefinition 9 = .ok (.iconst 1, 1) := by decide +kernel
theorem dX2_isDefinition_10 : decode cX2_isDefinition 10 = .ok (.goto 4, 3) := by decide +kernel
theorem dX2_isDefinition_13 : decode cX2_isDefinition 13 = .ok (.iconst 0, 1) := by decide +kernel
theorem dX2_isDefinition_14 : decode cX2_isDefinition 14 = .ok (.ireturn, 1) := by decide +kernel
theorem dX2_isRuleFor_0 : decode cX2_isRuleFor 0 = .ok (.aload_n 0, 1) := by decide +kernel
theorem dX2_isRuleFor_1 : decode cX2_isRuleFor 1 = .ok (.getfield 33, 3) := by decide +kernel
theorem dX2_isRuleFor_4 : decode cX2_isRuleFor 4 = .ok (.iload_n 1, 1) := by decide +kernel
theorem dX2_isRuleFor_5 : decode cX2_isRuleFor 5 = .ok (.if_icmp .ne 7, 3) := by decide +kernel
theorem dX2_isRuleFor_8 : decode cX2_isRuleFor 8 = .ok (.iconst 1, 1) := by decide +kernel
theorem dX2_isRuleFor_9 : decode cX2_isRuleFor 9 = .ok (.goto 4, 3) := by decide +kernel
theorem dX2_isRuleFor_12 : decode cX2_isRuleFor 12 = .ok (.iconst 0, 1) := by decide +kernel
theorem dX2_isRuleFor_13 : decode cX2_isRuleFor 13 = .ok (.ireturn, 1) := by decide +kernel
set_option maxRecDepth 20000 in
theorem ggX3_init_X4_init : GoodIn wsX3_init wsX4_init := goodIn_r _ [14, 15, 2, 3, 6, 16, 17, 22, 23, 24] (by decide +kernel) (by decide +kernel)
set_option maxRecDepth 20000 in
theorem gX3_init_X4_init_n23 : GoodIn wsX3_init (wsX4_init) := ggX3_init_X4_init
theorem dX3_init_0 : decode cX3_init 0 = .ok (.aload_n 0, 1) := by decide +kernel
theorem dX3_init_1 : decode cX3_init 1 = .ok (.invokespecial 3, 3) := by decide +kernel
theorem dX3_init_4 : decode cX3_init 4 = .ok (.aload_n 0, 1) := by decide +kernel
theorem dX3_init_5 : decode cX3_init 5 = .ok (.bipush 16, 2) := by decide +kernel
theorem dX3_init_7 : decode cX3_init 7 = .ok (.anewarray 9, 3) := by decide +kernel
theorem dX3_init_10 : decode cX3_init 10 = .ok (.putfield 11, 3) := by decide +kernel
theorem dX3_init_13 : decode cX3_init 13 = .ok (.aload_n 0, 1) := by decide +kernel
theorem dX3_init_14 : decode cX3_init 14 = .ok (.bipush 7, 2) := by decide +kernel
theorem dX3_init_16 : decode cX3_init 16 = .ok (.newarray .int, 2) := by decide +kernel
theorem dX3_init_18 : decode cX3_init 18 = .ok (.putfield 17, 3) := by decide +kernel
theorem dX3_init_21 : decode cX3_init 21 = .ok (.aload_n 0, 1) := by decide +kernel
theorem dX3_init_22 : decode cX3_init 22 = .ok (.new 21, 3) := by decide +kernel
theorem dX3_init_25 : decode cX3_init 25 = .ok (.dup, 1) := by decide +kernel
theorem dX3_init_26 : decode cX3_init 26 = .ok (.invokespecial 23, 3) := by decide +kernel
theorem dX3_init_29 : decode cX3_init 29 = .ok (.putfield 24, 3) := by decide +kernel
theorem dX3_init_32 : decode cX3_init 32 = .ok (.aload_n 0, 1) := by decide +kernel
theorem dX3_init_33 : decode cX3_init 33 = .ok (.getfield 17, 3) := by decide +kernel
theorem dX3_init_36 : decode cX3_init 36 = .ok (.bipush 6, 2) := by decide +kernel
theorem dX3_init_38 : decode cX3_init 38 = .ok (.ldc 28, 2) := by decide +kernel
theorem dX3_init_40 : decode cX3_init 40 = .ok (.iastore, 1) := by decide +kernel
theorem dX3_init_41 : decode cX3_init 41 = .ok (.return_, 1) := by decide +kernel
set_option maxRecDepth 20000 in
theorem ggX3_copyFrom_X4_copyFrom : GoodIn wsX3_copyFrom wsX4_copyFrom := goodIn_r _ [13, 14, 15, 16, 5, 6, 7, 17, 22, 23, 24] (by decide +kernel) (by decide +kernel)
set_option maxRecDepth 20000 in
theorem gX3_copyFrom_X4_copyFrom : GoodIn wsX3_copyFrom (wsV RX3 39 RX4 yX4_copyFrom wsX4_copyFrom) := goodIn_app (goodIn_of _ (by decide +kernel)) ggX3_copyFrom_X4_copyFrom
theorem dX3_copyFrom_0 : decode cX3_copyFrom 0 = .ok (.aload_n 0, 1) := by decide +kernel
theorem dX3_copyFrom_1 : decode cX3_copyFrom 1 = .ok (.aload_n 1, 1) := by decide +kernel
theorem dX3_copyFrom_2 : decode cX3_copyFrom 2 = .ok (.getfield 29, 3) := by decide +kernel
theorem dX3_copyFrom_5 : decode cX3_copyFrom 5 = .ok (.putfield 29, 3) := by decide +kernel
theorem dX3_copyFrom_8 : decode cX3_copyFrom 8 = .ok (.iconst 0, 1) := by decide +kernel
theorem dX3_copyFrom_9 : decode cX3_copyFrom 9 = .ok (.istore_n 2, 1) := by decide +kernel
theorem dX3_copyFrom_10 : decode cX3_copyFrom 10 = .ok (.iload_n 2, 1) := by decide +kernel
theorem dX3_copyFrom_11 : decode cX3_copyFrom 11 = .ok (.bipush 16, 2) := by decide +kernel
theorem dX3_copyFrom_13 : decode cX3_copyFrom 13 = .ok (.if_icmp .ge 21, 3) := by decide +kernel
theorem dX3_copyFrom_16 : decode cX3_copyFrom 16 = .ok (.aload_n 0, 1) := by decide +kernel
theorem dX3_copyFrom_17 : decode cX3_copyFrom 17 = .ok (.getfield 11, 3) := by decide +kernel
theorem dX3_copyFrom_20 : decode cX3_copyFrom 20 = .ok (.iload_n 2, 1) := by decide +kernel
theorem dX3_copyFrom_21 : decode cX3_copyFrom 21 = .ok (.aload_n 1, 1) := by decide +kernel
theorem dX3_copyFrom_22 : decode cX3_copyFrom 22 = .ok (.getfield 11, 3) := by decide +kernel
theorem dX3_copyFrom_25 : decode cX3_copyFrom 25 = .ok (.iload_n 2, 1) := by decide +kernel
theorem dX3_copyFrom_26 : decode cX3_copyFrom 26 = .ok (.aaload, 1) := by decide +kernel
theorem dX3_copyFrom_27 : decode cX3_copyFrom 27 = .ok (.aastore, 1) := by decide +kernel
theorem dX3_copyFrom_28 : decode cX3_copyFrom 28 = .ok (.iinc 2 1, 3) := by decide +kernel
theorem dX3_copyFrom_31 : decode cX3_copyFrom 31 = .ok (.goto (-21), 3) := by decide +kernel
theorem dX3_copyFrom_34 : decode cX3_copyFrom 34 = .ok (.aload_n 1, 1) := by decide +kernel
theorem dX3_copyFrom_35 : decode cX3_copyFrom 35 = .ok (.getfield 17, 3) := by decide +kernel
theorem dX3_copyFrom_38 : decode cX3_copyFrom 38 = .ok (.iconst 0, 1) := by decide +kernel
theorem dX3_copyFrom_39 : decode cX3_copyFrom 39 = .ok (.aload_n 0, 1) := by decide +kernel
theorem dX3_copyFrom_40 : decode cX3_copyFrom 40 = .ok (.getfield 17, 3) := by decide +kernel
theorem dX3_copyFrom_43 : decode cX3_copyFrom 43 = .ok (.iconst 0, 1) := by decide +kernel
theorem dX3_copyFrom_44 : decode cX3_copyFrom 44 = .ok (.bipush 7, 2) := by decide +kernel
theorem dX3_copyFrom_46 : decode cX3_copyFrom 46 = .ok (.invokestatic 33, 3) := by decide +kernel
theorem dX3_copyFrom_49 : decode cX3_copyFrom 49 = .ok (.aload_n 0, 1) := by decide +kernel
theorem dX3_copyFrom_50 : decode cX3_copyFrom 50 = .ok (.getfield 24, 3) := by decide +kernel
theorem dX3_copyFrom_53 : decode cX3_copyFrom 53 = .ok (.aload_n 1, 1) := by decide +kernel
theorem dX3_copyFrom_54 : decode cX3_copyFrom 54 = .ok (.getfield 24, 3) := by decide +kernel
theorem dX3_copyFrom_57 : decode cX3_copyFrom 57 = .ok (.invokevirtual 39, 3) := by decide +kernel
theorem dX3_copyFrom_60 : decode cX3_copyFrom 60 = .ok (.return_, 1) := by decide +kernel
theorem dX3_sentenceAt_0 : decode cX3_sentenceAt 0 = .ok (.iload_n 1, 1) := by decide +kernel
theorem dX3_sentenceAt_1 : decode cX3_sentenceAt 1 = .ok (.ifCond .lt 26, 3) := by decide +kernel
theorem dX3_sentenceAt_4 : decode cX3_sentenceAt 4 = .ok (.iload_n 1, 1) := by decide +kernel
theorem dX3_sentenceAt_5 : decode cX3_sentenceAt 5 = .ok (.aload_n 0, 1) := by decide +kernel
theorem dX3_sentenceAt_6 : decode cX3_sentenceAt 6 = .ok (.getfield 29, 3) := by decide +kernel
theorem dX3_sentenceAt_9 : decode cX3_sentenceAt 9 = .ok (.if_icmp .ge 18, 3) := by decide +kernel
theorem dX3_sentenceAt_12 : decode cX3_sentenceAt 12 = .ok (.iload_n 1, 1) := by decide +kernel
theorem dX3_sentenceAt_13 : decode cX3_sentenceAt 13 = .ok (.bipush 16, 2) := by decide +kernel
theorem dX3_sentenceAt_15 : decode cX3_sentenceAt 15 = .ok (.if_icmp .ge 12, 3) := by decide +kernel
theorem dX3_sentenceAt_18 : decode cX3_sentenceAt 18 = .ok (.aload_n 0, 1) := by decide +kernel
theorem dX3_sentenceAt_19 : decode cX3_sentenceAt 19 = .ok (.getfield 11, 3) := by decide +kernel
theorem dX3_sentenceAt_22 : decode cX3_sentenceAt 22 = .ok (.iload_n 1, 1) := by decide +kernel
theorem dX3_sentenceAt_23 : decode cX3_sentenceAt 23 = .ok (.aaload, 1) := by decide +kernel
theorem dX3_sentenceAt_24 : decode cX3_sentenceAt 24 = .ok (.goto 4, 3) := by decide +kernel
theorem dX3_sentenceAt_27 : decode cX3_sentenceAt 27 = .ok (.aconst_null, 1) := by decide +kernel
theorem dX3_sentenceAt_28 : decode cX3_sentenceAt 28 = .ok (.areturn, 1) := by decide +kernel
theorem dX3_addSentence_0 : decode cX3_addSentence 0 = .ok (.aload_n 0, 1) := by decide +kernel
theorem dX3_addSentence_1 : decode cX3_addSentence 1 = .ok (.getfield 29, 3) := by decide +kernel
theorem dX3_addSentence_4 : decode cX3_addSentence 4 = .ok (.bipush 16, 2) := by decide +kernel
theorem dX3_addSentence_6 : decode cX3_addSentence 6 = .ok (.if_icmp .ge 23, 3) := by decide +kernel
theorem dX3_addSentence_9 : decode cX3_addSentence 9 = .ok (.aload_n 0, 1) := by decide +kernel
theorem dX3_addSentence_10 : decode cX3_addSentence 10 = .ok (.getfield 11, 3) := by decide +kernel
theorem dX3_addSentence_13 : decode cX3_addSentence 13 = .ok (.aload_n 0, 1) := by decide +kernel
theorem dX3_addSentence_14 : decode cX3_addSentence 14 = .ok (.getfield 29, 3) := by decide +kernel
theorem dX3_addSentence_17 : decode cX3_addSentence 17 = .ok (.aload_n 1, 1) := by decide +kernel
theorem dX3_addSentence_18 : decode cX3_addSentence 18 = .ok (.aastore, 1) := by decide +kernel
theorem dX3_addSentence_19 : decode cX3_addSentence 19 = .ok (.aload_n 0, 1) := by decide +kernel
theorem dX3_addSentence_20 : decode cX3_addSentence 20 = .ok (.dup, 1) := by decide +kernel
theorem dX3_addSentence_21 : decode cX3_addSentence 21 = .ok (.getfield 29, 3) := by decide +kernel
theorem dX3_addSentence_24 : decode cX3_addSentence 24 = .ok (.iconst 1, 1) := by decide +kernel
theorem dX3_addSentence_25 : decode cX3_addSentence 25 = .ok (.iadd, 1) := by decide +kernel
theorem dX3_addSentence_26 : decode cX3_addSentence 26 = .ok (.putfield 29, 3) := by decide +kernel
theorem dX3_addSentence_29 : decode cX3_addSentence 29 = .ok (.return_, 1) := by decide +kernel
theorem dX3_removeSentence_0 : decode cX3_removeSentence 0 = .ok (.iload_n 1, 1) := by decide +kernel
theorem dX3_removeSentence_1 : decode cX3_removeSentence 1 = .ok (.ifCond .lt 11, 3) := by decide +kernel
theorem dX3_removeSentence_4 : decode cX3_removeSentence 4 = .ok (.iload_n 1, 1) := by decide +kernel
theorem dX3_removeSentence_5 : decode cX3_removeSentence 5 = .ok (.aload_n 0, 1) := by decide +kernel
theorem dX3_removeSentence_6 : decode cX3_removeSentence 6 = .ok (.getfield 29, 3) := by decide +kernel
theorem dX3_removeSentence_9 : decode cX3_removeSentence 9 = .ok (.if_icmp .lt 4, 3) := by decide +kernel
theorem dX3_removeSentence_12 : decode cX3_removeSentence 12 = .ok (.return_, 1) := by decide +kernel
theorem dX3_removeSentence_13 : decode cX3_removeSentence 13 = .ok (.iload_n 1, 1) := by decide +kernel
theorem dX3_removeSentence_14 : decode cX3_removeSentence 14 = .ok (.iconst 1, 1) := by decide +kernel
theorem dX3_removeSentence_15 : decode cX3_removeSentence 15 = .ok (.iadd, 1) := by decide +kernel
theorem dX3_removeSentence_16 : decode cX3_removeSentence 16 = .ok (.istore_n 2, 1) := by decide +kernel
theorem dX3_removeSentence_17 : decode cX3_removeSentence 17 = .ok (.iload_n 2, 1) := by decide +kernel
theorem dX3_removeSentence_18 : decode cX3_removeSentence 18 = .ok (.aload_n 0, 1) := by decide +kernel
theorem dX3_removeSentence_19 : decode cX3_removeSentence 19 = .ok (.getfield 29, 3) := by decide +kernel
theorem dX3_removeSentence_22 : decode cX3_removeSentence 22 = .ok (.if_icmp .ge 23, 3) := by decide +kernel
theorem dX3_removeSentence_25 : decode cX3_removeSentence 25 = .ok (.aload_n 0, 1) := by decide +kernel
theorem dX3_removeSentence_26 : decode cX3_removeSentence 26 = .ok (.getfield 11, 3) := by decide +kernel
theorem dX3_removeSentence_29 : decode cX3_removeSentence 29 = .ok (.iload_n 2, 1) := by decide +kernel
theorem dX3_removeSentence_30 : decode cX3_removeSentence 30 = .ok (.iconst 1, 1) := by decide +kernel
theorem dX3_removeSentence_31 : decode cX3_removeSentence 31 = .ok (.isub, 1) := by decide +kernel
theorem dX3_removeSentence_32 : decode cX3_removeSentence 32 = .ok (.aload_n 0, 1) := by decide +kernel
theorem dX3_removeSentence_33 : decode cX3_removeSentence 33 = .ok (.getfield 11, 3) := by decide +kernel
theorem dX3_removeSentence_36 : decode cX3_removeSentence 36 = .ok (.iload_n 2, 1) := by decide +kernel
theorem dX3_removeSentence_37 : decode cX3_removeSentence 37 = .ok (.aaload, 1) := by decide +kernel
theorem dX3_removeSentence_38 : decode cX3_removeSentence 38 = .ok (.aastore, 1) := by decide +kernel
theorem dX3_removeSentence_39 : decode cX3_removeSentence 39 = .ok (.iinc 2 1, 3) := by decide +kernel
theorem dX3_removeSentence_42 : decode cX3_removeSentence 42 = .ok (.goto (-25), 3) := by decide +kernel
theorem dX3_removeSentence_45 : decode cX3_removeSentence 45 = .ok (.aload_n 0, 1) := by decide +kernel
theorem dX3_removeSentence_46 : decode cX3_removeSentence 46 = .ok (.dup, 1) := by decide +kernel
theorem dX3_removeSentence_47 : decode cX3_removeSentence 47 = .ok (.getfield 29, 3) := by decide +kernel
theorem dX3_removeSentence_50 : decode cX3_removeSentence 50 = .ok (.iconst 1, 1) := by decide +kernel
theorem dX3_removeSentence_51 : decode cX3_removeSentence 51 = .ok (.isub, 1) := by decide +kernel
theorem dX3_removeSentence_52 : decode cX3_removeSentence 52 = .ok (.putfield 29, 3) := by decide +kernel
theorem dX3_removeSentence_55 : decode cX3_removeSentence 55 = .ok (.aload_n 0, 1) := by decide +kernel
theorem dX3_removeSentence_56 : decode cX3_removeSentence 56 = .ok (.getfield 11, 3) := by decide +kernel
theorem dX3_removeSentence_59 : decode cX3_removeSentence 59 = .ok (.aload_n 0, 1) := by decide +kernel
theorem dX3_removeSentence_60 : decode cX3_removeSentence 60 = .ok (.getfield 29, 3) := by decide +kernel
theorem dX3_removeSentence_63 : decode cX3_removeSentence 63 = .ok (.aconst_null, 1) := by decide +kernel
theorem dX3_removeSentence_64 : decode cX3_removeSentence 64 = .ok (.aastore, 1) := by decide +kernel
theorem dX3_removeSentence_65 : decode cX3_removeSentence 65 = .ok (.return_, 1) := by decide +kernel
set_option maxRecDepth 20000 in
theorem ggX3_definitionOf_X3_sentenceAt : GoodIn wsX3_definitionOf wsX3_sentenceAt := goodIn_r _ [7, 1, 8, 9, 10, 11, 12] (by decide +kernel) (by decide +kernel)
set_option maxRecDepth 20000 in
theorem gX3_definitionOf_X3_sentenceAt : GoodIn wsX3_definitionOf (wsV RX3 43 RX3 yX3_sentenceAt wsX3_sentenceAt) := goodIn_app (goodIn_of _ (by decide +kernel)) ggX3_definitionOf_X3_sentenceAt
theorem dX3_definitionOf_0 : decode cX3_definitionOf 0 = .ok (.iconst 0, 1) := by decide +kernel
theorem dX3_definitionOf_1 : decode cX3_definitionOf 1 = .ok (.istore_n 2, 1) := by decide +kernel
theorem dX3_definitionOf_2 : decode cX3_definitionOf 2 = .ok (.iload_n 2, 1) := by decide +kernel
theorem dX3_definitionOf_3 : decode cX3_definitionOf 3 = .ok (.aload_n 0, 1) := by decide +kernel
theorem dX3_definitionOf_4 : decode cX3_definitionOf 4 = .ok (.getfield 29, 3) := by decide +kernel
theorem dX3_definitionOf_7 : decode cX3_definitionOf 7 = .ok (.if_icmp .ge 32, 3) := by decide +kernel
theorem dX3_definitionOf_10 : decode cX3_definitionOf 10 = .ok (.aload_n 0, 1) := by decide +kernel
theorem dX3_definitionOf_11 : decode cX3_definitionOf 11 = .ok (.iload_n 2, 1) := by decide +kernel
theorem dX3_definitionOf_12 : decode cX3_definitionOf 12 = .ok (.invokevirtual 43, 3) := by decide +kernel
theorem dX3_definitionOf_15 : decode cX3_definitionOf 15 = .ok (.astore_n 3, 1) := by decide +kernel
theorem dX3_definitionOf_16 : decode cX3_definitionOf 16 = .ok (.aload_n 3, 1) := by decide +kernel
theorem dX3_definitionOf_17 : decode cX3_definitionOf 17 = .ok (.ifnull 16, 3) := by decide +kernel
theorem dX3_definitionOf_20 : decode cX3_definitionOf 20 = .ok (.aload_n 3, 1) := by decide +kernel
theorem dX3_definitionOf_21 : decode cX3_definitionOf 21 = .ok (.getfield 47, 3) := by decide +kernel
theorem dX3_definitionOf_24 : decode cX3_definitionOf 24 = .ok (.bipush 10, 2) := by decide +kernel
theorem dX3_definitionOf_26 : decode cX3_definitionOf 26 = .ok (.iload_n 1, 1) := by decide +kernel
theorem dX3_definitionOf_27 : decode cX3_definitionOf 27 = .ok (.iadd, 1) := by decide +kernel
theorem dX3_definitionOf_28 : decode cX3_definitionOf 28 = .ok (.if_icmp .ne 5, 3) := by decide +kernel
theorem dX3_definitionOf_31 : decode cX3_definitionOf 31 = .ok (.iload_n 2, 1) := by decide +kernel
theorem dX3_definitionOf_32 : decode cX3_definitionOf 32 = .ok (.ireturn, 1) := by decide +kernel
theorem dX3_definitionOf_33 : decode cX3_definitionOf 33 = .ok (.iinc 2 1, 3) := by decide +kernel
theorem dX3_definitionOf_36 : decode cX3_definitionOf 36 = .ok (.goto (-34), 3) := by decide +kernel
theorem dX3_definitionOf_39 : decode cX3_definitionOf 39 = .ok (.iconst (-1), 1) := by decide +kernel
theorem dX3_definitionOf_40 : decode cX3_definitionOf 40 = .ok (.ireturn, 1) := by decide +kernel
set_option maxRecDepth 20000 in
theorem ggX3_isUsed_X3_sentenceAt : GoodIn wsX3_isUsed wsX3_sentenceAt := goodIn_r _ [7, 1, 8, 12, 13, 14, 15] (by decide +kernel) (by decide +kernel)
set_option maxRecDepth 20000 in
theorem gX3_isUsed_X3_sentenceAt : GoodIn wsX3_isUsed (wsV RX3 43 RX3 yX3_sentenceAt wsX3_sentenceAt) := goodIn_app (goodIn_of _ (by decide +kernel)) ggX3_isUsed_X3_sentenceAt
set_option maxRecDepth 20000 in
theorem ggX3_isUsed_X5_isBitSet : GoodIn wsX3_isUsed wsX5_isBitSet := goodIn_r _ [11] (by decide +kernel) (by decide +kernel)
set_option maxRecDepth 20000 in
theorem gX3_isUsed_X5_isBitSet_n53 : GoodIn wsX3_isUsed (wsX5_isBitSet) := ggX3_isUsed_X5_isBitSet
theorem dX3_isUsed_0 : decode cX3_isUsed 0 = .ok (.iconst 0, 1) := by decide +kernel
theorem dX3_isUsed_1 : decode cX3_isUsed 1 = .ok (.istore_n 2, 1) := by decide +kernel
theorem dX3_isUsed_2 : decode cX3_isUsed 2 = .ok (.iload_n 2, 1) := by decide +kernel
theorem dX3_isUsed_3 : decode cX3_isUsed 3 = .ok (.aload_n 0, 1) := by decide +kernel
theorem dX3_isUsed_4 : decode cX3_isUsed 4 = .ok (.getfield 29, 3) := by decide +kernel
theorem dX3_isUsed_7 : decode cX3_isUsed 7 = .ok (.if_icmp .ge 32, 3) := by decide +kernel
theorem dX3_isUsed_10 : decode cX3_isUsed 10 = .ok (.aload_n 0, 1) := by decide +kernel
theorem dX3_isUsed_11 : decode cX3_isUsed 11 = .ok (.iload_n 2, 1) := by decide +kernel
theorem dX3_isUsed_12 : decode cX3_isUsed 12 = .ok (.invokevirtual 43, 3) := by decide +kernel
theorem dX3_isUsed_15 : decode cX3_isUsed 15 = .ok (.astore_n 3, 1) := by decide +kernel
theorem dX3_isUsed_16 : decode cX3_isUsed 16 = .ok (.aload_n 3, 1) := by decide +kernel
theorem dX3_isUsed_17 : decode cX3_isUsed 17 = .ok (.ifnull 16, 3) := by decide +kernel
theorem dX3_isUsed_20 : decode cX3_isUsed 20 = .ok (.aload_n 3, 1) := by decide +kernel
theorem dX3_isUsed_21 : decode cX3_isUsed 21 = .ok (.getfield 50, 3) := by decide +kernel
theorem dX3_isUsed_24 : decode cX3_isUsed 24 = .ok (.iload_n 1, 1) := by decide +kernel
theorem dX3_isUsed_25 : decode cX3_isUsed 25 = .ok (.invokestatic 53, 3) := by decide +kernel
theorem dX3_isUsed_28 : decode cX3_isUsed 28 = .ok (.ifCond .eq 5, 3) := by decide +kernel
theorem dX3_isUsed_31 : decode cX3_isUsed 31 = .ok (.iconst 1, 1) := by decide +kernel
theorem dX3_isUsed_32 : decode cX3_isUsed 32 = .ok (.ireturn, 1) := by decide +kernel
theorem dX3_isUsed_33 : decode cX3_isUsed 33 = .ok (.iinc 2 1, 3) := by decide +kernel
theorem dX3_isUsed_36 : decode cX3_isUsed 36 = .ok (.goto (-34), 3) := by decide +kernel
theorem dX3_isUsed_39 : decode cX3_isUsed 39 = .ok (.iconst 0, 1) := by decide +kernel
theorem dX3_isUsed_40 : decode cX3_isUsed 40 = .ok (.ireturn, 1) := by decide +kernel
set_option maxRecDepth 20000 in
theorem ggX3_applies_X3_sentenceAt : GoodIn wsX3_applies wsX3_sentenceAt := goodIn_r _ [6, 7, 8, 27, 28, 29, 30] (by decide +kernel) (by decide +kernel)
set_option maxRecDepth 20000 in
theorem gX3_applies_X3_sentenceAt : GoodIn wsX3_applies (wsV RX3 43 RX3 yX3_sentenceAt wsX3_sentenceAt) := goodIn_app (goodIn_of _ (by decide +kernel)) ggX3_applies_X3_sentenceAt
set_option maxRecDepth 20000 in
theorem ggX3_applies_X2_isRuleFor : GoodIn wsX3_applies wsX2_isRuleFor := goodIn_r _ [13, 14, 22, 23, 24, 25, 26] (by decide +kernel) (by decide +kernel)
set_option maxRecDepth 20000 in
theorem gX3_applies_X2_isRuleFor : GoodIn wsX3_applies (wsV RX3 57 RX2 yX2_isRuleFor wsX2_isRuleFor) := goodIn_app (goodIn_of _ (by decide +kernel)) ggX3_applies_X2_isRuleFor
set_option maxRecDepth 20000 in
theorem ggX3_applies_X1_hasValues : GoodIn wsX3_applies wsX1_hasValues := goodIn_r _ [19, 20, 21, 31, 32] (by decide +kernel) (by decide +kernel)
set_option maxRecDepth 20000 in
theorem gX3_applies_X1_hasValues : GoodIn wsX3_applies (wsV RX3 65 RX1 yX1_hasValues wsX1_hasValues) := goodIn_app (goodIn_of _ (by decide +kernel)) ggX3_applies_X1_hasValues
theorem dX3_applies_0 : decode cX3_applies 0 = .ok (.aload_n 0, 1) := by decide +kernel
theorem dX3_applies_1 : decode cX3_applies 1 = .ok (.iload_n 1, 1) := by decide +kernel
theorem dX3_applies_2 : decode cX3_applies 2 = .ok (.invokevirtual 43, 3) := by decide +kernel
theorem dX3_applies_5 : decode cX3_applies 5 = .ok (.astore 5, 2) := by decide +kernel
theorem dX3_applies_7 : decode cX3_applies 7 = .ok (.aload 5, 2) := by decide +kernel
theorem dX3_applies_9 : decode cX3_applies 9 = .ok (.ifnull 34, 3) := by decide +kernel
theorem dX3_applies_12 : decode cX3_applies 12 = .ok (.iload_n 1, 1) := by decide +kernel
theorem dX3_applies_13 : decode cX3_applies 13 = .ok (.iload 4, 2) := by decide +kernel
theorem dX3_applies_15 : decode cX3_applies 15 = .ok (.if_icmp .eq 28, 3) := by decide +kernel
theorem dX3_applies_18 : decode cX3_applies 18 = .ok (.aload 5, 2) := by decide +kernel
theorem dX3_applies_20 : decode cX3_applies 20 = .ok (.iload_n 2, 1) := by decide +kernel
theorem dX3_applies_21 : decode cX3_applies 21 = .ok (.invokevirtual 57, 3) := by decide +kernel
theorem dX3_applies_24 : decode cX3_applies 24 = .ok (.ifCond .eq 19, 3) := by decide +kernel
theorem dX3_applies_27 : decode cX3_applies 27 = .ok (.aload 5, 2) := by decide +kernel
theorem dX3_applies_29 : decode cX3_applies 29 = .ok (.getfield 61, 3) := by decide +kernel
theorem dX3_applies_32 : decode cX3_applies 32 = .ok (.aload_n 3, 1) := by decide +kernel
theorem dX3_applies_33 : decode cX3_applies 33 = .ok (.invokevirtual 65, 3) := by decide +kernel
theorem dX3_applies_36 : decode cX3_applies 36 = .ok (.ifCond .eq 7, 3) := by decide +kernel
theorem dX3_applies_39 : decode cX3_applies 39 = .ok (.iconst 1, 1) := by decide +kernel
theorem dX3_applies_40 : decode cX3_applies 40 = .ok (.goto 4, 3) := by decide +kernel
theorem dX3_applies_43 : decode cX3_applies 43 = .ok (.iconst 0, 1) := by decide +kernel
theorem dX3_applies_44 : decode cX3_applies 44 = .ok (.ireturn, 1) := by decide +kernel
set_option maxRecDepth 20000 in
theorem ggX3_isOverridden_X3_sentenceAt : GoodIn wsX3_isOverridden wsX3_sentenceAt := goodIn_r _ [7, 1, 8, 34, 35, 36, 37] (by decide +kernel) (by decide +kernel)
set_option maxRecDepth 20000 in
theorem gX3_isOverridden_X3_sentenceAt : GoodIn wsX3_isOverridden (wsV RX3 43 RX3 yX3_sentenceAt wsX3_sentenceAt) := goodIn_app (goodIn_of _ (by decide +kernel)) ggX3_isOverridden_X3_sentenceAt
set_option maxRecDepth 20000 in
theorem ggX3_isOverridden_X3_applies : GoodIn wsX3_isOverridden wsX3_applies := goodIn_r _ [12, 2, 3, 4, 5, 6, 7, 1, 8, 13, 14, 15, 16, 17, 18, 19, 20, 21, 22, 23, 24, 25, 38, 39, 40, 41, 42, 34, 35, 36, 37, 43, 44] (by decide +kernel) (by decide +kernel)
set_option maxRecDepth 20000 in
theorem gX3_isOverridden_X3_applies : GoodIn wsX3_isOverridden (wsV RX3 71 RX3 yX3_applies wsX3_applies) := goodIn_app (goodIn_of _ (by decide +kernel)) ggX3_isOverridden_X3_applies
set_option maxRecDepth 20000 in
theorem ggX3_isOverridden_X1_isStrictlyInside : GoodIn wsX3_isOverridden wsX1_isStrictlyInside := goodIn_r _ [29, 30, 31, 32, 22, 33, 24, 25, 43, 44] (by decide +kernel) (by decide +kernel)
set_option maxRecDepth 20000 in
theorem gX3_isOverridden_X1_isStrictlyInside : GoodIn wsX3_isOverridden (wsV RX3 75 RX1 yX1_isStrictlyInside wsX1_isStrictlyInside) := goodIn_app (goodIn_of _ (by decide +kernel)) ggX3_isOverridden_X1_isStrictlyInside
theorem dX3_isOverridden_0 : decode cX3_isOverridden 0 = .ok (.aload_n 0, 1) := by decide +kernel
theorem dX3_isOverridden_1 : decode cX3_isOverridden 1 = .ok (.iload_n 1, 1) := by decide +kernel
theorem dX3_isOverridden_2 : decode cX3_isOverridden 2 = .ok (.invokevirtual 43, 3) := by decide +kernel
theorem dX3_isOverridden_5 : decode cX3_isOverridden 5 = .ok (.astore 5, 2) := by decide +kernel
theorem dX3_isOverridden_7 : decode cX3_isOverridden 7 = .ok (.aload 5, 2) := by decide +kernel
theorem dX3_isOverridden_9 : decode cX3_isOverridden 9 = .ok (.ifnonnull 5, 3) := by decide +kernel
theorem dX3_isOverridden_12 : decode cX3_isOverridden 12 = .ok (.iconst 0, 1) := by decide +kernel
theorem dX3_isOverridden_13 : decode cX3_isOverridden 13 = .ok (.ireturn, 1) := by decide +kernel
theorem dX3_isOverridden_14 : decode cX3_isOverridden 14 = .ok (.iconst 0, 1) := by decide +kernel
theorem dX3_isOverridden_15 : decode cX3_isOverridden 15 = .ok (.istore 6, 2) := by decide +kernel
theorem dX3_isOverridden_17 : decode cX3_isOverridden 17 = .ok (.iload 6, 2) := by decide +kernel
theorem dX3_isOverridden_19 : decode cX3_isOverridden 19 = .ok (.aload_n 0, 1) := by decide +kernel
theorem dX3_isOverridden_20 : decode cX3_isOverridden 20 = .ok (.getfield 29, 3) := by decide +kernel
theorem dX3_isOverridden_23 : decode cX3_isOverridden 23 = .ok (.if_icmp .ge 53, 3) := by decide +kernel
theorem dX3_isOverridden_26 : decode cX3_isOverridden 26 = .ok (.aload_n 0, 1) := by decide +kernel
theorem dX3_isOverridden_27 : decode cX3_isOverridden 27 = .ok (.iload 6, 2) := by decide +kernel
theorem dX3_isOverridden_29 : decode cX3_isOverridden 29 = .ok (.invokevirtual 43, 3) := by decide +kernel
theorem dX3_isOverridden_32 : decode cX3_isOverridden 32 = .ok (.astore 7, 2) := by decide +kernel
theorem dX3_isOverridden_34 : decode cX3_isOverridden 34 = .ok (.aload 7, 2) := by decide +kernel
theorem dX3_isOverridden_36 : decode cX3_isOverridden 36 = .ok (.ifnull 34, 3) := by decide +kernel
theorem dX3_isOverridden_39 : decode cX3_isOverridden 39 = .ok (.aload_n 0, 1) := by decide +kernel
theorem dX3_isOverridden_40 : decode cX3_isOverridden 40 = .ok (.iload 6, 2) := by decide +kernel
theorem dX3_isOverridden_42 : decode cX3_isOverridden 42 = .ok (.iload_n 2, 1) := by decide +kernel
theorem dX3_isOverridden_43 : decode cX3_isOverridden 43 = .ok (.aload_n 3, 1) := by decide +kernel
theorem dX3_isOverridden_44 : decode cX3_isOverridden 44 = .ok (.iload 4, 2) := by decide +kernel
theorem dX3_isOverridden_46 : decode cX3_isOverridden 46 = .ok (.invokevirtual 71, 3) := by decide +kernel
theorem dX3_isOverridden_49 : decode cX3_isOverridden 49 = .ok (.ifCond .eq 21, 3) := by decide +kernel
theorem dX3_isOverridden_52 : decode cX3_isOverridden 52 = .ok (.aload 7, 2) := by decide +kernel
theorem dX3_isOverridden_54 : decode cX3_isOverridden 54 = .ok (.getfield 61, 3) := by decide +kernel
theorem dX3_isOverridden_57 : decode cX3_isOverridden 57 = .ok (.aload 5, 2) := by decide +kernel
theorem dX3_isOverridden_59 : decode cX3_isOverridden 59 = .ok (.getfield 61, 3) := by decide +kernel
theorem dX3_isOverridden_62 : decode cX3_isOverridden 62 = .ok (.invokevirtual 75, 3) := by decide +kernel
theorem dX3_isOverridden_65 : decode cX3_isOverridden 65 = .ok (.ifCond .eq 5, 3) := by decide +kernel
theorem dX3_isOverridden_68 : decode cX3_isOverridden 68 = .ok (.iconst 1, 1) := by decide +kernel
theorem dX3_isOverridden_69 : decode cX3_isOverridden 69 = .ok (.ireturn, 1) := by decide +kernel
theorem dX3_isOverridden_70 : decode cX3_isOverridden 70 = .ok (.iinc 6 1, 3) := by decide +kernel
theorem dX3_isOverridden_73 : decode cX3_isOverridden 73 = .ok (.goto (-56), 3) := by decide +kernel
theorem dX3_isOverridden_76 : decode cX3_isOverridden 76 = .ok (.iconst 0, 1) := by decide +kernel
theorem dX3_isOverridden_77 : decode cX3_isOverridden 77 = .ok (.ireturn, 1) := by decide +kernel
set_option maxRecDepth 20000 in
theorem ggX3_isReason_X3_applies : GoodIn wsX3_isReason wsX3_applies := goodIn_r _ [5, 6, 7, 8, 9, 4, 10, 11, 12, 13, 14, 15, 16, 17, 18, 19, 20, 21, 22, 23, 24, 25, 38, 39, 40, 41, 42, 43, 44, 45, 46, 47, 48] (by decide +kernel) (by decide +kernel)
set_option maxRecDepth 20000 in
theorem gX3_isReason_X3_applies : GoodIn wsX3_isReason (wsV RX3 71 RX3 yX3_applies wsX3_applies) := goodIn_app (goodIn_of _ (by decide +kernel)) ggX3_isReason_X3_applies
set_option maxRecDepth 20000 in
theorem ggX3_isReason_X3_isOverridden : GoodIn wsX3_isReason wsX3_isOverridden := goodIn_r _ [29, 11, 6, 7, 8, 9, 4, 10, 12, 1, 2, 3, 5, 13, 14, 15, 16, 17, 18, 19, 20, 21, 22, 23, 24, 25, 30, 31, 32, 33, 34, 35, 36, 37, 43, 44, 45, 46, 38, 39, 40, 41, 42, 47, 48] (by decide +kernel) (by decide +kernel)
set_option maxRecDepth 20000 in
theorem gX3_isReason_X3_isOverridden : GoodIn wsX3_isReason (wsV RX3 79 RX3 yX3_isOverridden wsX3_isOverridden) := goodIn_app (goodIn_of _ (by decide +kernel)) ggX3_isReason_X3_isOverridden
theorem dX3_isReason_0 : decode cX3_isReason 0 = .ok (.aload_n 0, 1) := by decide +kernel
theorem dX3_isReason_1 : decode cX3_isReason 1 = .ok (.iload_n 1, 1) := by decide +kernel
theorem dX3_isReason_2 : decode cX3_isReason 2 = .ok (.iload_n 2, 1) := by decide +kernel
theorem dX3_isReason_3 : decode cX3_isReason 3 = .ok (.aload_n 3, 1) := by decide +kernel
theorem dX3_isReason_4 : decode cX3_isReason 4 = .ok (.iload 4, 2) := by decide +kernel
theorem dX3_isReason_6 : decode cX3_isReason 6 = .ok (.invokevirtual 71, 3) := by decide +kernel
theorem dX3_isReason_9 : decode cX3_isReason 9 = .ok (.ifCond .eq 19, 3) := by decide +kernel
theorem dX3_isReason_12 : decode cX3_isReason 12 = .ok (.aload_n 0, 1) := by decide +kernel
theorem dX3_isReason_13 : decode cX3_isReason 13 = .ok (.iload_n 1, 1) := by decide +kernel
theorem dX3_isReason_14 : decode cX3_isReason 14 = .ok (.iload_n 2, 1) := by decide +kernel
theorem dX3_isReason_15 : decode cX3_isReason 15 = .ok (.aload_n 3, 1) := by decide +kernel
theorem dX3_isReason_16 : decode cX3_isReason 16 = .ok (.iload 4, 2) := by decide +kernel
theorem dX3_isReason_18 : decode cX3_isReason 18 = .ok (.invokevirtual 79, 3) := by decide +kernel
theorem dX3_isReason_21 : decode cX3_isReason 21 = .ok (.ifCond .ne 7, 3) := by decide +kernel
theorem dX3_isReason_24 : decode cX3_isReason 24 = .ok (.iconst 1, 1) := by decide +kernel
theorem dX3_isReason_25 : decode cX3_isReason 25 = .ok (.goto 4, 3) := by decide +kernel
theorem dX3_isReason_28 : decode cX3_isReason 28 = .ok (.iconst 0, 1) := by decide +kernel
theorem dX3_isReason_29 : decode cX3_isReason 29 = .ok (.ireturn, 1) := by decide +kernel
set_option maxRecDepth 20000 in
theorem ggX3_answerFor_X3_sentenceAt : GoodIn wsX3_answerFor wsX3_sentenceAt := goodIn_r _ [9, 2, 10, 45, 46, 47, 48] (by decide +kernel) (by decide +kernel)
set_option maxRecDepth 20000 in
theorem gX3_answerFor_X3_sentenceAt : GoodIn wsX3_answerFor (wsV RX3 43 RX3 yX3_sentenceAt wsX3_sentenceAt) := goodIn_app (goodIn_of _ (by decide +kernel)) ggX3_answerFor_X3_sentenceAt
set_option maxRecDepth 20000 in
theorem ggX3_answerFor_X3_isReason : GoodIn wsX3_answerFor wsX3_isReason := goodIn_r _ [14, 15, 16, 17, 8, 18, 19, 5, 6, 7, 9, 2, 10, 20, 21, 22, 23, 24, 25, 26, 27, 28, 29, 30, 31, 32, 33, 34, 35, 36, 37, 38, 39, 40, 41, 42, 43, 44, 49, 50, 51, 52, 53, 45, 46, 47, 48, 54, 55] (by decide +kernel) (by decide +kernel)
set_option maxRecDepth 20000 in
theorem gX3_answerFor_X3_isReason : GoodIn wsX3_answerFor (wsV RX3 83 RX3 yX3_isReason wsX3_isReason) := goodIn_app (goodIn_of _ (by decide +kernel)) ggX3_answerFor_X3_isReason
theorem dX3_answerFor_0 : decode cX3_answerFor 0 = .ok (.ldc 82, 2) := by decide +kernel
theorem dX3_answerFor_2 : decode cX3_answerFor 2 = .ok (.istore 4, 2) := by decide +kernel
theorem dX3_answerFor_4 : decode cX3_answerFor 4 = .ok (.iconst 0, 1) := by decide +kernel
theorem dX3_answerFor_5 : decode cX3_answerFor 5 = .ok (.istore 5, 2) := by decide +kernel
theorem dX3_answerFor_7 : decode cX3_answerFor 7 = .ok (.iload 5, 2) := by decide +kernel
theorem dX3_answerFor_9 : decode cX3_answerFor 9 = .ok (.aload_n 0, 1) := by decide +kernel
theorem dX3_answerFor_10 : decode cX3_answerFor 10 = .ok (.getfield 29, 3) := by decide +kernel
theorem dX3_answerFor_13 : decode cX3_answerFor 13 = .ok (.if_icmp .ge 61, 3) := by decide +kernel
theorem dX3_answerFor_16 : decode cX3_answerFor 16 = .ok (.aload_n 0, 1) := by decide +kernel
theorem dX3_answerFor_17 : decode cX3_answerFor 17 = .ok (.iload 5, 2) := by decide +kernel
theorem dX3_answerFor_19 : decode cX3_answerFor 19 = .ok (.invokevirtual 43, 3) := by decide +kernel
theorem dX3_answerFor_22 : decode cX3_answerFor 22 = .ok (.astore 6, 2) := by decide +kernel
theorem dX3_answerFor_24 : decode cX3_answerFor 24 = .ok (.aload 6, 2) := by decide +kernel
theorem dX3_answerFor_26 : decode cX3_answerFor 26 = .ok (.ifnull 42, 3) := by decide +kernel
theorem dX3_answerFor_29 : decode cX3_answerFor 29 = .ok (.aload_n 0, 1) := by decide +kernel
theorem dX3_answerFor_30 : decode cX3_answerFor 30 = .ok (.iload 5, 2) := by decide +kernel
theorem dX3_answerFor_32 : decode cX3_answerFor 32 = .ok (.iload_n 1, 1) := by decide +kernel
theorem dX3_answerFor_33 : decode cX3_answerFor 33 = .ok (.aload_n 2, 1) := by decide +kernel
theorem dX3_answerFor_34 : decode cX3_answerFor 34 = .ok (.iload_n 3, 1) := by decide +kernel
theorem dX3_answerFor_35 : decode cX3_answerFor 35 = .ok (.invokevirtual 83, 3) := by decide +kernel
theorem dX3_answerFor_38 : decode cX3_answerFor 38 = .ok (.ifCond .eq 30, 3) := by decide +kernel
theorem dX3_answerFor_41 : decode cX3_answerFor 41 = .ok (.iload 4, 2) := by decide +kernel
theorem dX3_answerFor_43 : decode cX3_answerFor 43 = .ok (.ldc 82, 2) := by decide +kernel
theorem dX3_answerFor_45 : decode cX3_answerFor 45 = .ok (.if_icmp .eq 16, 3) := by decide +kernel
theorem dX3_answerFor_48 : decode cX3_answerFor 48 = .ok (.iload 4, 2) := by decide +kernel
theorem dX3_answerFor_50 : decode cX3_answerFor 50 = .ok (.aload 6, 2) := by decide +kernel
theorem dX3_answerFor_52 : decode cX3_answerFor 52 = .ok (.getfield 86, 3) := by decide +kernel
theorem dX3_answerFor_55 : decode cX3_answerFor 55 = .ok (.if_icmp .eq 6, 3) := by decide +kernel
theorem dX3_answerFor_58 : decode cX3_answerFor 58 = .ok (.ldc 89, 2) := by decide +kernel
theorem dX3_answerFor_60 : decode cX3_answerFor 60 = .ok (.ireturn, 1) := by decide +kernel
theorem dX3_answerFor_61 : decode cX3_answerFor 61 = .ok (.aload 6, 2) := by decide +kernel
theorem dX3_answerFor_63 : decode cX3_answerFor 63 = .ok (.getfield 86, 3) := by decide +kernel
theorem dX3_answerFor_66 : decode cX3_answerFor 66 = .ok (.istore 4, 2) := by decide +kernel
theorem dX3_answerFor_68 : decode cX3_answerFor 68 = .ok (.iinc 5 1, 3) := by decide +kernel
theorem dX3_answerFor_71 : decode cX3_answerFor 71 = .ok (.goto (-64), 3) := by decide +kernel
theorem dX3_answerFor_74 : decode cX3_answerFor 74 = .ok (.iload 4, 2) := by decide +kernel
theorem dX3_answerFor_76 : decode cX3_answerFor 76 = .ok (.ireturn, 1) := by decide +kernel
set_option maxRecDepth 20000 in
theorem ggX3_comesBefore_X3_sentenceAt : GoodIn wsX3_comesBefore wsX3_sentenceAt := goodIn_r _ [6, 7, 8, 27, 28, 29, 30] (by decide +kernel) (by decide +kernel)
set_option maxRecDepth 20000 in
theorem gX3_comesBefore_X3_sentenceAt : GoodIn wsX3_comesBefore (wsV RX3 43 RX3 yX3_sentenceAt wsX3_sentenceAt) := goodIn_app (goodIn_of _ (by decide +kernel)) ggX3_comesBefore_X3_sentenceAt
set_option maxRecDepth 20000 in
theorem ggX3_comesBefore_X1_limitedFacts : GoodIn wsX3_comesBefore wsX1_limitedFacts := goodIn_r _ [13, 14, 15, 16, 17, 18, 19, 20, 21, 31, 32] (by decide +kernel) (by decide +kernel)
set_option maxRecDepth 20000 in
theorem gX3_comesBefore_X1_limitedFacts : GoodIn wsX3_comesBefore (wsV RX3 90 RX1 yX1_limitedFacts wsX1_limitedFacts) := goodIn_app (goodIn_of _ (by decide +kernel)) ggX3_comesBefore_X1_limitedFacts
theorem dX3_comesBefore_0 : decode cX3_comesBefore 0 = .ok (.aload_n 0, 1) := by decide +kernel
theorem dX3_comesBefore_1 : decode cX3_comesBefore 1 = .ok (.iload_n 1, 1) := by decide +kernel
theorem dX3_comesBefore_2 : decode cX3_comesBefore 2 = .ok (.invokevirtual 43, 3) := by decide +kernel
theorem dX3_comesBefore_5 : decode cX3_comesBefore 5 = .ok (.astore_n 3, 1) := by decide +kernel
theorem dX3_comesBefore_6 : decode cX3_comesBefore 6 = .ok (.aload_n 0, 1) := by decide +kernel
theorem dX3_comesBefore_7 : decode cX3_comesBefore 7 = .ok (.iload_n 2, 1) := by decide +kernel
theorem dX3_comesBefore_8 : decode cX3_comesBefore 8 = .ok (.invokevirtual 43, 3) := by decide +kernel
theorem dX3_comesBefore_11 : decode cX3_comesBefore 11 = .ok (.astore 4, 2) := by decide +kernel
theorem dX3_comesBefore_13 : decode cX3_comesBefore 13 = .ok (.aload_n 3, 1) := by decide +kernel
theorem dX3_comesBefore_14 : decode cX3_comesBefore 14 = .ok (.ifnull 8, 3) := by decide +kernel
theorem dX3_comesBefore_17 : decode cX3_comesBefore 17 = .ok (.aload 4, 2) := by decide +kernel
theorem dX3_comesBefore_19 : decode cX3_comesBefore 19 = .ok (.ifnonnull 5, 3) := by decide +kernel
theorem dX3_comesBefore_22 : decode cX3_comesBefore 22 = .ok (.iconst 0, 1) := by decide +kernel
theorem dX3_comesBefore_23 : decode cX3_comesBefore 23 = .ok (.ireturn, 1) := by decide +kernel
theorem dX3_comesBefore_24 : decode cX3_comesBefore 24 = .ok (.aload_n 3, 1) := by decide +kernel
theorem dX3_comesBefore_25 : decode cX3_comesBefore 25 = .ok (.getfield 61, 3) := by decide +kernel
theorem dX3_comesBefore_28 : decode cX3_comesBefore 28 = .ok (.invokevirtual 90, 3) := by decide +kernel
theorem dX3_comesBefore_31 : decode cX3_comesBefore 31 = .ok (.aload 4, 2) := by decide +kernel
theorem dX3_comesBefore_33 : decode cX3_comesBefore 33 = .ok (.getfield 61, 3) := by decide +kernel
theorem dX3_comesBefore_36 : decode cX3_comesBefore 36 = .ok (.invokevirtual 90, 3) := by decide +kernel
theorem dX3_comesBefore_39 : decode cX3_comesBefore 39 = .ok (.isub, 1) := by decide +kernel
theorem dX3_comesBefore_40 : decode cX3_comesBefore 40 = .ok (.istore 5, 2) := by decide +kernel
theorem dX3_comesBefore_42 : decode cX3_comesBefore 42 = .ok (.iload 5, 2) := by decide +kernel
theorem dX3_comesBefore_44 : decode cX3_comesBefore 44 = .ok (.ifCond .gt 13, 3) := by decide +kernel
theorem dX3_comesBefore_47 : decode cX3_comesBefore 47 = .ok (.iload 5, 2) := by decide +kernel
theorem dX3_comesBefore_49 : decode cX3_comesBefore 49 = .ok (.ifCond .ne 12, 3) := by decide +kernel
theorem dX3_comesBefore_52 : decode cX3_comesBefore 52 = .ok (.iload_n 1, 1) := by decide +kernel
theorem dX3_comesBefore_53 : decode cX3_comesBefore 53 = .ok (.iload_n 2, 1) := by decide +kernel
theorem dX3_comesBefore_54 : decode cX3_comesBefore 54 = .ok (.if_icmp .ge 7, 3) := by decide +kernel
theorem dX3_comesBefore_57 : decode cX3_comesBefore 57 = .ok (.iconst 1, 1) := by decide +kernel
theorem dX3_comesBefore_58 : decode cX3_comesBefore 58 = .ok (.goto 4, 3) := by decide +kernel
theorem dX3_comesBefore_61 : decode cX3_comesBefore 61 = .ok (.iconst 0, 1) := by decide +kernel
theorem dX3_comesBefore_62 : decode cX3_comesBefore 62 = .ok (.ireturn, 1) := by decide +kernel
set_option maxRecDepth 20000 in
theorem ggX3_doContradict_X3_sentenceAt : GoodIn wsX3_doContradict wsX3_sentenceAt := goodIn_r _ [8, 9, 10, 56, 57, 58, 59] (by decide +kernel) (by decide +kernel)
set_option maxRecDepth 20000 in
theorem gX3_doContradict_X3_sentenceAt : GoodIn wsX3_doContradict (wsV RX3 43 RX3 yX3_sentenceAt wsX3_sentenceAt) := goodIn_app (goodIn_of _ (by decide +kernel)) ggX3_doContradict_X3_sentenceAt
set_option maxRecDepth 20000 in
theorem ggX3_doContradict_X2_isDefinition : GoodIn wsX3_doContradict wsX2_isDefinition := goodIn_r _ [15, 16, 51, 52, 53, 54, 55] (by decide +kernel) (by decide +kernel)
set_option maxRecDepth 20000 in
theorem gX3_doContradict_X2_isDefinition : GoodIn wsX3_doContradict (wsV RX3 94 RX2 yX2_isDefinition wsX2_isDefinition) := goodIn_app (goodIn_of _ (by decide +kernel)) ggX3_doContradict_X2_isDefinition
set_option maxRecDepth 20000 in
theorem ggX3_doContradict_X1_meets : GoodIn wsX3_doContradict wsX1_meets := goodIn_r _ [21, 22, 23, 24, 25, 26, 27, 28, 29, 30, 60, 61] (by decide +kernel) (by decide +kernel)
set_option maxRecDepth 20000 in
theorem gX3_doContradict_X1_meets : GoodIn wsX3_doContradict (wsV RX3 98 RX1 yX1_meets wsX1_meets) := goodIn_app (goodIn_of _ (by decide +kernel)) ggX3_doContradict_X1_meets
set_option maxRecDepth 20000 in
theorem ggX3_doContradict_X1_isStrictlyInside : GoodIn wsX3_doContradict wsX1_isStrictlyInside := goodIn_r _ [34, 35, 36, 37, 20, 38, 22, 27, 60, 61] (by decide +kernel) (by decide +kernel)
set_option maxRecDepth 20000 in
theorem gX3_doContradict_X1_isStrictlyInside : GoodIn wsX3_doContradict (wsV RX3 75 RX1 yX1_isStrictlyInside wsX1_isStrictlyInside) := goodIn_app (goodIn_of _ (by decide +kernel)) ggX3_doContradict_X1_isStrictlyInside
set_option maxRecDepth 20000 in
theorem ggX3_doContradict_X3_hasRuleForCommonRegion : GoodIn wsX3_doContradict wsX3_hasRuleForCommonRegion := goodIn_r _ [42, 9, 1, 3, 4, 5, 6, 7, 8, 10, 43, 44, 45, 14, 46, 16, 47, 48, 49, 20, 50, 22, 23, 24, 25, 26, 27, 28, 29, 30, 56, 57, 58, 59, 51, 52, 53, 54, 55, 60, 61] (by decide +kernel) (by decide +kernel)
set_option maxRecDepth 20000 in
theorem gX3_doContradict_X3_hasRuleForCommonRegion : GoodIn wsX3_doContradict (wsV RX3 101 RX3 yX3_hasRuleForCommonRegion wsX3_hasRuleForCommonRegion) := goodIn_app (goodIn_of _ (by decide +kernel)) ggX3_doContradict_X3_hasRuleForCommonRegion
theorem dX3_doContradict_0 : decode cX3_doContradict 0 = .ok (.aload_n 0, 1) := by decide +kernel
theorem dX3_doContradict_1 : decode cX3_doContradict 1 = .ok (.iload_n 1, 1) := by decide +kernel
theorem dX3_doContradict_2 : decode cX3_doContradict 2 = .ok (.invokevirtual 43, 3) := by decide +kernel
theorem dX3_doContradict_5 : decode cX3_doContradict 5 = .ok (.astore_n 3, 1) := by decide +kernel
theorem dX3_doContradict_6 : decode cX3_doContradict 6 = .ok (.aload_n 0, 1) := by decide +kernel
theorem dX3_doContradict_7 : decode cX3_doContradict 7 = .ok (.iload_n 2, 1) := by decide +kernel
theorem dX3_doContradict_8 : decode cX3_doContradict 8 = .ok (.invokevirtual 43, 3) := by decide +kernel
theorem dX3_doContradict_11 : decode cX3_doContradict 11 = .ok (.astore 4, 2) := by decide +kernel
theorem dX3_doContradict_13 : decode cX3_doContradict 13 = .ok (.aload_n 3, 1) := by decide +kernel
theorem dX3_doContradict_14 : decode cX3_doContradict 14 = .ok (.ifnull 27, 3) := by decide +kernel
theorem dX3_doContradict_17 : decode cX3_doContradict 17 = .ok (.aload 4, 2) := by decide +kernel
theorem dX3_doContradict_19 : decode cX3_doContradict 19 = .ok (.ifnull 22, 3) := by decide +kernel
theorem dX3_doContradict_22 : decode cX3_doContradict 22 = .ok (.aload_n 3, 1) := by decide +kernel
theorem dX3_doContradict_23 : decode cX3_doContradict 23 = .ok (.invokevirtual 94, 3) := by decide +kernel
theorem dX3_doContradict_26 : decode cX3_doContradict 26 = .ok (.ifCond .ne 15, 3) := by decide +kernel
theorem dX3_doContradict_29 : decode cX3_doContradict 29 = .ok (.aload_n 3, 1) := by decide +kernel
theorem dX3_doContradict_30 : decode cX3_doContradict 30 = .ok (.getfield 47, 3) := by decide +kernel
theorem dX3_doContradict_33 : decode cX3_doContradict 33 = .ok (.aload 4, 2) := by decide +kernel
theorem dX3_doContradict_35 : decode cX3_doContradict 35 = .ok (.getfield 47, 3) := by decide +kernel
theorem dX3_doContradict_38 : decode cX3_doContradict 38 = .ok (.if_icmp .eq 5, 3) := by decide +kernel
theorem dX3_doContradict_41 : decode cX3_doContradict 41 = .ok (.iconst 0, 1) := by decide +kernel
theorem dX3_doContradict_42 : decode cX3_doContradict 42 = .ok (.ireturn, 1) := by decide +kernel
theorem dX3_doContradict_43 : decode cX3_doContradict 43 = .ok (.aload_n 3, 1) := by decide +kernel
theorem dX3_doContradict_44 : decode cX3_doContradict 44 = .ok (.getfield 86, 3) := by decide +kernel
theorem dX3_doContradict_47 : decode cX3_doContradict 47 = .ok (.aload 4, 2) := by decide +kernel
theorem dX3_doContradict_49 : decode cX3_doContradict 49 = .ok (.getfield 86, 3) := by decide +kernel
theorem dX3_doContradict_52 : decode cX3_doContradict 52 = .ok (.if_icmp .eq 62, 3) := by decide +kernel
theorem dX3_doContradict_55 : decode cX3_doContradict 55 = .ok (.aload_n 3, 1) := by decide +kernel
theorem dX3_doContradict_56 : decode cX3_doContradict 56 = .ok (.getfield 61, 3) := by decide +kernel
theorem dX3_doContradict_59 : decode cX3_doContradict 59 = .ok (.aload 4, 2) := by decide +kernel
theorem dX3_doContradict_61 : decode cX3_doContradict 61 = .ok (.getfield 61, 3) := by decide +kernel
theorem dX3_doContradict_64 : decode cX3_doContradict 64 = .ok (.invokevirtual 98, 3) := by decide +kernel
theorem dX3_doContradict_67 : decode cX3_doContradict 67 = .ok (.ifCond .eq 47, 3) := by decide +kernel
theorem dX3_doContradict_70 : decode cX3_doContradict 70 = .ok (.aload_n 3, 1) := by decide +kernel
theorem dX3_doContradict_71 : decode cX3_doContradict 71 = .ok (.getfield 61, 3) := by decide +kernel
theorem dX3_doContradict_74 : decode cX3_doContradict 74 = .ok (.aload 4, 2) := by decide +kernel
theorem dX3_doContradict_76 : decode cX3_doContradict 76 = .ok (.getfield 61, 3) := by decide +kernel
theorem dX3_doContradict_79 : decode cX3_doContradict 79 = .ok (.invokevirtual 75, 3) := by decide +kernel
theorem dX3_doContradict_82 : decode cX3_doContradict 82 = .ok (.ifCond .ne 32, 3) := by decide +kernel
theorem dX3_doContradict_85 : decode cX3_doContradict 85 = .ok (.aload 4, 2) := by decide +kernel
theorem dX3_doContradict_87 : decode cX3_doContradict 87 = .ok (.getfield 61, 3) := by decide +kernel
theorem dX3_doContradict_90 : decode cX3_doContradict 90 = .ok (.aload_n 3, 1) := by decide +kernel
theorem dX3_doContradict_91 : decode cX3_doContradict 91 = .ok (.getfield 61, 3) := by decide +kernel
theorem dX3_doContradict_94 : decode cX3_doContradict 94 = .ok (.invokevirtual 75, 3) := by decide +kernel
theorem dX3_doContradict_97 : decode cX3_doContradict 97 = .ok (.ifCond .ne 17, 3) := by decide +kernel
theorem dX3_doContradict_100 : decode cX3_doContradict 100 = .ok (.aload_n 0, 1) := by decide +kernel
theorem dX3_doContradict_101 : decode cX3_doContradict 101 = .ok (.aload_n 3, 1) := by decide +kernel
theorem dX3_doContradict_102 : decode cX3_doContradict 102 = .ok (.aload 4, 2) := by decide +kernel
theorem dX3_doContradict_104 : decode cX3_doContradict 104 = .ok (.invokevirtual 101, 3) := by decide +kernel
theorem dX3_doContradict_107 : decode cX3_doContradict 107 = .ok (.ifCond .ne 7, 3) := by decide +kernel
theorem dX3_doContradict_110 : decode cX3_doContradict 110 = .ok (.iconst 1, 1) := by decide +kernel
theorem dX3_doContradict_111 : decode cX3_doContradict 111 = .ok (.goto 4, 3) := by decide +kernel
theorem dX3_doContradict_114 : decode cX3_doContradict 114 = .ok (.iconst 0, 1) := by decide +kernel
theorem dX3_doContradict_115 : decode cX3_doContradict 115 = .ok (.ireturn, 1) := by decide +kernel
set_option maxRecDepth 20000 in
theorem ggX3_hasRuleForCommonRegion_X3_sentenceAt : GoodIn wsX3_hasRuleForCommonRegion wsX3_sentenceAt := goodIn_r _ [8, 1, 9, 30, 31, 32, 33] (by decide +kernel) (by decide +kernel)
set_option maxRecDepth 20000 in
theorem gX3_hasRuleForCommonRegion_X3_sentenceAt : GoodIn wsX3_hasRuleForCommonRegion (wsV RX3 43 RX3 yX3_sentenceAt wsX3_sentenceAt) := goodIn_app (goodIn_of _ (by decide +kernel)) ggX3_hasRuleForCommonRegion_X3_sentenceAt
set_option maxRecDepth 20000 in
theorem ggX3_hasRuleForCommonRegion_X2_isRuleFor : GoodIn wsX3_hasRuleForCommonRegion wsX2_isRuleFor := goodIn_r _ [14, 15, 34, 35, 36, 37, 38] (by decide +kernel) (by decide +kernel)
set_option maxRecDepth 20000 in
theorem gX3_hasRuleForCommonRegion_X2_isRuleFor : GoodIn wsX3_hasRuleForCommonRegion (wsV RX3 57 RX2 yX2_isRuleFor wsX2_isRuleFor) := goodIn_app (goodIn_of _ (by decide +kernel)) ggX3_hasRuleForCommonRegion_X2_isRuleFor
set_option maxRecDepth 20000 in
theorem ggX3_hasRuleForCommonRegion_X1_isCommonTo : GoodIn wsX3_hasRuleForCommonRegion wsX1_isCommonTo := goodIn_r _ [20, 21, 22, 23, 24, 25, 26, 27, 28, 29, 39, 40] (by decide +kernel) (by decide +kernel)
set_option maxRecDepth 20000 in
theorem gX3_hasRuleForCommonRegion_X1_isCommonTo : GoodIn wsX3_hasRuleForCommonRegion (wsV RX3 105 RX1 yX1_isCommonTo wsX1_isCommonTo) := goodIn_app (goodIn_of _ (by decide +kernel)) ggX3_hasRuleForCommonRegion_X1_isCommonTo
theorem dX3_hasRuleForCommonRegion_0 : decode cX3_hasRuleForCommonRegion 0 = .ok (.iconst 0, 1) := by decide +kernel
theorem dX3_hasRuleForCommonRegion_1 : decode cX3_hasRuleForCommonRegion 1 = .ok (.istore_n 3, 1) := by decide +kernel
theorem dX3_hasRuleForCommonRegion_2 : decode cX3_hasRuleForCommonRegion 2 = .ok (.iload_n 3, 1) := by decide +kernel
theorem dX3_hasRuleForCommonRegion_3 : decode cX3_hasRuleForCommonRegion 3 = .ok (.aload_n 0, 1) := by decide +kernel
theorem dX3_hasRuleForCommonRegion_4 : decode cX3_hasRuleForCommonRegion 4 = .ok (.getfield 29, 3) := by decide +kernel
theorem dX3_hasRuleForCommonRegion_7 : decode cX3_hasRuleForCommonRegion 7 = .ok (.if_icmp .ge 54, 3) := by decide +kernel
theorem dX3_hasRuleForCommonRegion_10 : decode cX3_hasRuleForCommonRegion 10 = .ok (.aload_n 0, 1) := by decide +kernel
theorem dX3_hasRuleForCommonRegion_11 : decode cX3_hasRuleForCommonRegion 11 = .ok (.iload_n 3, 1) := by decide +kernel
theorem dX3_hasRuleForCommonRegion_12 : decode cX3_hasRuleForCommonRegion 12 = .ok (.invokevirtual 43, 3) := by decide +kernel
theorem dX3_hasRuleForCommonRegion_15 : decode cX3_hasRuleForCommonRegion 15 = .ok (.astore 4, 2) := by decide +kernel
theorem dX3_hasRuleForCommonRegion_17 : decode cX3_hasRuleForCommonRegion 17 = .ok (.aload 4, 2) := by decide +kernel
theorem dX3_hasRuleForCommonRegion_19 : decode cX3_hasRuleForCommonRegion 19 = .ok (.ifnull 36, 3) := by decide +kernel
theorem dX3_hasRuleForCommonRegion_22 : decode cX3_hasRuleForCommonRegion 22 = .ok (.aload 4, 2) := by decide +kernel
theorem dX3_hasRuleForCommonRegion_24 : decode cX3_hasRuleForCommonRegion 24 = .ok (.aload_n 1, 1) := by decide +kernel
theorem dX3_hasRuleForCommonRegion_25 : decode cX3_hasRuleForCommonRegion 25 = .ok (.getfield 47, 3) := by decide +kernel
theorem dX3_hasRuleForCommonRegion_28 : decode cX3_hasRuleForCommonRegion 28 = .ok (.invokevirtual 57, 3) := by decide +kernel
theorem dX3_hasRuleForCommonRegion_31 : decode cX3_hasRuleForCommonRegion 31 = .ok (.ifCond .eq 24, 3) := by decide +kernel
theorem dX3_hasRuleForCommonRegion_34 : decode cX3_hasRuleForCommonRegion 34 = .ok (.aload 4, 2) := by decide +kernel
theorem dX3_hasRuleForCommonRegion_36 : decode cX3_hasRuleForCommonRegion 36 = .ok (.getfield 61, 3) := by decide +kernel
theorem dX3_hasRuleForCommonRegion_39 : decode cX3_hasRuleForCommonRegion 39 = .ok (.aload_n 1, 1) := by decide +kernel
theorem dX3_hasRuleForCommonRegion_40 : decode cX3_hasRuleForCommonRegion 40 = .ok (.getfield 61, 3) := by decide +kernel
theorem dX3_hasRuleForCommonRegion_43 : decode cX3_hasRuleForCommonRegion 43 = .ok (.aload_n 2, 1) := by decide +kernel
theorem dX3_hasRuleForCommonRegion_44 : decode cX3_hasRuleForCommonRegion 44 = .ok (.getfield 61, 3) := by decide +kernel
theorem dX3_hasRuleForCommonRegion_47 : decode cX3_hasRuleForCommonRegion 47 = .ok (.invokevirtual 105, 3) := by decide +kernel
theorem dX3_hasRuleForCommonRegion_50 : decode cX3_hasRuleForCommonRegion 50 = .ok (.ifCond .eq 5, 3) := by decide +kernel
theorem dX3_hasRuleForCommonRegion_53 : decode cX3_hasRuleForCommonRegion 53 = .ok (.iconst 1, 1) := by decide +kernel
theorem dX3_hasRuleForCommonRegion_54 : decode cX3_hasRuleForCommonRegion 54 = .ok (.ireturn, 1) := by decide +kernel
theorem dX3_hasRuleForCommonRegion_55 : decode cX3_hasRuleForCommonRegion 55 = .ok (.iinc 3 1, 3) := by decide +kernel
theorem dX3_hasRuleForCommonRegion_58 : decode cX3_hasRuleForCommonRegion 58 = .ok (.goto (-56), 3) := by decide +kernel
theorem dX3_hasRuleForCommonRegion_61 : decode cX3_hasRuleForCommonRegion 61 = .ok (.iconst 0, 1) := by decide +kernel
theorem dX3_hasRuleForCommonRegion_62 : decode cX3_hasRuleForCommonRegion 62 = .ok (.ireturn, 1) := by decide +kernel
set_option maxRecDepth 20000 in
theorem ggX3_nextBorder_X5_isFact : GoodIn wsX3_nextBorder wsX5_isFact := goodIn_r _ [8] (by decide +kernel) (by decide +kernel)
set_option maxRecDepth 20000 in
theorem gX3_nextBorder_X5_isFact_n109 : GoodIn wsX3_nextBorder (wsX5_isFact) := ggX3_nextBorder_X5_isFact
set_option maxRecDepth 20000 in
theorem ggX3_nextBorder_X3_sentenceAt : GoodIn wsX3_nextBorder wsX3_sentenceAt := goodIn_r _ [13, 2, 14, 27, 28, 29, 30] (by decide +kernel) (by decide +kernel)
set_option maxRecDepth 20000 in
theorem gX3_nextBorder_X3_sentenceAt : GoodIn wsX3_nextBorder (wsV RX3 43 RX3 yX3_sentenceAt wsX3_sentenceAt) := goodIn_app (goodIn_of _ (by decide +kernel)) ggX3_nextBorder_X3_sentenceAt
set_option maxRecDepth 20000 in
theorem ggX3_nextBorder_X2_isRuleFor : GoodIn wsX3_nextBorder wsX2_isRuleFor := goodIn_r _ [19, 20, 31, 32, 33, 34, 35] (by decide +kernel) (by decide +kernel)
set_option maxRecDepth 20000 in
theorem gX3_nextBorder_X2_isRuleFor : GoodIn wsX3_nextBorder (wsV RX3 57 RX2 yX2_isRuleFor wsX2_isRuleFor) := goodIn_app (goodIn_of _ (by decide +kernel)) ggX3_nextBorder_X2_isRuleFor
set_option maxRecDepth 20000 in
theorem ggX3_nextBorder_X3_nearer : GoodIn wsX3_nextBorder wsX3_nearer := goodIn_r _ [23, 1] (by decide +kernel) (by decide +kernel)
set_option maxRecDepth 20000 in
theorem gX3_nextBorder_X3_nearer : GoodIn wsX3_nextBorder (va_wsS RX3 115 yX3_nearer wsX3_nearer) := goodIn_app (goodIn_of _ (by decide +kernel)) ggX3_nextBorder_X3_nearer
set_option maxRecDepth 20000 in
theorem ggX3_nextBorder_X5_highestOf : GoodIn wsX3_nextBorder wsX5_highestOf := goodIn_r _ [25, 26] (by decide +kernel) (by decide +kernel)
set_option maxRecDepth 20000 in
theorem gX3_nextBorder_X5_highestOf_n122 : GoodIn wsX3_nextBorder (wsX5_highestOf) := ggX3_nextBorder_X5_highestOf
theorem dX3_nextBorder_0 : decode cX3_nextBorder 0 = .ok (.ldc 82, 2) := by decide +kernel
theorem dX3_nextBorder_2 : decode cX3_nextBorder 2 = .ok (.istore 4, 2) := by decide +kernel
theorem dX3_nextBorder_4 : decode cX3_nextBorder 4 = .ok (.iconst 0, 1) := by decide +kernel
theorem dX3_nextBorder_5 : decode cX3_nextBorder 5 = .ok (.istore 5, 2) := by decide +kernel
theorem dX3_nextBorder_7 : decode cX3_nextBorder 7 = .ok (.iload 5, 2) := by decide +kernel
theorem dX3_nextBorder_9 : decode cX3_nextBorder 9 = .ok (.aload_n 0, 1) := by decide +kernel
theorem dX3_nextBorder_10 : decode cX3_nextBorder 10 = .ok (.getfield 29, 3) := by decide +kernel
theorem dX3_nextBorder_13 : decode cX3_nextBorder 13 = .ok (.if_icmp .ge 76, 3) := by decide +kernel
theorem dX3_nextBorder_16 : decode cX3_nextBorder 16 = .ok (.iload_n 2, 1) := by decide +kernel
theorem dX3_nextBorder_17 : decode cX3_nextBorder 17 = .ok (.invokestatic 109, 3) := by decide +kernel
theorem dX3_nextBorder_20 : decode cX3_nextBorder 20 = .ok (.ifCond .eq 69, 3) := by decide +kernel
theorem dX3_nextBorder_23 : decode cX3_nextBorder 23 = .ok (.aload_n 0, 1) := by decide +kernel
theorem dX3_nextBorder_24 : decode cX3_nextBorder 24 = .ok (.iload 5, 2) := by decide +kernel
theorem dX3_nextBorder_26 : decode cX3_nextBorder 26 = .ok (.invokevirtual 43, 3) := by decide +kernel
theorem dX3_nextBorder_29 : decode cX3_nextBorder 29 = .ok (.astore 6, 2) := by decide +kernel
theorem dX3_nextBorder_31 : decode cX3_nextBorder 31 = .ok (.aload 6, 2) := by decide +kernel
theorem dX3_nextBorder_33 : decode cX3_nextBorder 33 = .ok (.ifnull 50, 3) := by decide +kernel
theorem dX3_nextBorder_36 : decode cX3_nextBorder 36 = .ok (.aload 6, 2) := by decide +kernel
theorem dX3_nextBorder_38 : decode cX3_nextBorder 38 = .ok (.iload_n 1, 1) := by decide +kernel
theorem dX3_nextBorder_39 : decode cX3_nextBorder 39 = .ok (.invokevirtual 57, 3) := by decide +kernel
theorem dX3_nextBorder_42 : decode cX3_nextBorder 42 = .ok (.ifCond .eq 41, 3) := by decide +kernel
theorem dX3_nextBorder_45 : decode cX3_nextBorder 45 = .ok (.iload 4, 2) := by decide +kernel
theorem dX3_nextBorder_47 : decode cX3_nextBorder 47 = .ok (.aload 6, 2) := by decide +kernel
theorem dX3_nextBorder_49 : decode cX3_nextBorder 49 = .ok (.getfield 61, 3) := by decide +kernel
theorem dX3_nextBorder_52 : decode cX3_nextBorder 52 = .ok (.getfield 112, 3) := by decide +kernel
theorem dX3_nextBorder_55 : decode cX3_nextBorder 55 = .ok (.iload_n 2, 1) := by decide +kernel
theorem dX3_nextBorder_56 : decode cX3_nextBorder 56 = .ok (.iaload, 1) := by decide +kernel
theorem dX3_nextBorder_57 : decode cX3_nextBorder 57 = .ok (.iload_n 3, 1) := by decide +kernel
theorem dX3_nextBorder_58 : decode cX3_nextBorder 58 = .ok (.invokestatic 115, 3) := by decide +kernel
theorem dX3_nextBorder_61 : decode cX3_nextBorder 61 = .ok (.istore 4, 2) := by decide +kernel
theorem dX3_nextBorder_63 : decode cX3_nextBorder 63 = .ok (.iload 4, 2) := by decide +kernel
theorem dX3_nextBorder_65 : decode cX3_nextBorder 65 = .ok (.aload 6, 2) := by decide +kernel
theorem dX3_nextBorder_67 : decode cX3_nextBorder 67 = .ok (.getfield 61, 3) := by decide +kernel
theorem dX3_nextBorder_70 : decode cX3_nextBorder 70 = .ok (.getfield 119, 3) := by decide +kernel
theorem dX3_nextBorder_73 : decode cX3_nextBorder 73 = .ok (.iload_n 2, 1) := by decide +kernel
theorem dX3_nextBorder_74 : decode cX3_nextBorder 74 = .ok (.iaload, 1) := by decide +kernel
theorem dX3_nextBorder_75 : decode cX3_nextBorder 75 = .ok (.iconst 1, 1) := by decide +kernel
theorem dX3_nextBorder_76 : decode cX3_nextBorder 76 = .ok (.iadd, 1) := by decide +kernel
theorem dX3_nextBorder_77 : decode cX3_nextBorder 77 = .ok (.iload_n 3, 1) := by decide +kernel
theorem dX3_nextBorder_78 : decode cX3_nextBorder 78 = .ok (.invokestatic 115, 3) := by decide +kernel
theorem dX3_nextBorder_81 : decode cX3_nextBorder 81 = .ok (.istore 4, 2) := by decide +kernel
theorem dX3_nextBorder_83 : decode cX3_nextBorder 83 = .ok (.iinc 5 1, 3) := by decide +kernel
theorem dX3_nextBorder_86 : decode cX3_nextBorder 86 = .ok (.goto (-79), 3) := by decide +kernel
theorem dX3_nextBorder_89 : decode cX3_nextBorder 89 = .ok (.iload 4, 2) := by decide +kernel
theorem dX3_nextBorder_91 : decode cX3_nextBorder 91 = .ok (.ldc 82, 2) := by decide +kernel
theorem dX3_nextBorder_93 : decode cX3_nextBorder 93 = .ok (.if_icmp .eq 17, 3) := by decide +kernel
theorem dX3_nextBorder_96 : decode cX3_nextBorder 96 = .ok (.iload 4, 2) := by decide +kernel
theorem dX3_nextBorder_98 : decode cX3_nextBorder 98 = .ok (.iload_n 2, 1) := by decide +kernel
theorem dX3_nextBorder_99 : decode cX3_nextBorder 99 = .ok (.invokestatic 122, 3) := by decide +kernel
theorem dX3_nextBorder_102 : decode cX3_nextBorder 102 = .ok (.if_icmp .gt 8, 3) := by decide +kernel
theorem dX3_nextBorder_105 : decode cX3_nextBorder 105 = .ok (.iload 4, 2) := by decide +kernel
theorem dX3_nextBorder_107 : decode cX3_nextBorder 107 = .ok (.goto 5, 3) := by decide +kernel
theorem dX3_nextBorder_110 : decode cX3_nextBorder 110 = .ok (.ldc 82, 2) := by decide +kernel
theorem dX3_nextBorder_112 : decode cX3_nextBorder 112 = .ok (.ireturn, 1) := by decide +kernel
theorem dX3_nearer_0 : decode cX3_nearer 0 = .ok (.iload_n 1, 1) := by decide +kernel
theorem dX3_nearer_1 : decode cX3_nearer 1 = .ok (.iload_n 2, 1) := by decide +kernel
theorem dX3_nearer_2 : decode cX3_nearer 2 = .ok (.if_icmp .le 18, 3) := by decide +kernel
theorem dX3_nearer_5 : decode cX3_nearer 5 = .ok (.iload_n 0, 1) := by decide +kernel
theorem dX3_nearer_6 : decode cX3_nearer 6 = .ok (.ldc 82, 2) := by decide +kernel
theorem dX3_nearer_8 : decode cX3_nearer 8 = .ok (.if_icmp .eq 8, 3) := by decide +kernel
theorem dX3_nearer_11 : decode cX3_nearer 11 = .ok (.iload_n 1, 1) := by decide +kernel
theorem dX3_nearer_12 : decode cX3_nearer 12 = .ok (.iload_n 0, 1) := by decide +kernel
theorem dX3_nearer_13 : decode cX3_nearer 13 = .ok (.if_icmp .ge 7, 3) := by decide +kernel
theorem dX3_nearer_16 : decode cX3_nearer 16 = .ok (.iload_n 1, 1) := by decide +kernel
theorem dX3_nearer_17 : decode cX3_nearer 17 = .ok (.goto 4, 3) := by decide +kernel
theorem dX3_nearer_20 : decode cX3_nearer 20 = .ok (.iload_n 0, 1) := by decide +kernel
theorem dX3_nearer_21 : decode cX3_nearer 21 = .ok (.ireturn, 1) := by decide +kernel
theorem dX4_init_0 : decode cX4_init 0 = .ok (.aload_n 0, 1) := by decide +kernel
theorem dX4_init_1 : decode cX4_init 1 = .ok (.invokespecial 3, 3) := by decide +kernel
theorem dX4_init_4 : decode cX4_init 4 = .ok (.aload_n 0, 1) := by decide +kernel
theorem dX4_init_5 : decode cX4_init 5 = .ok (.bipush 24, 2) := by decide +kernel
theorem dX4_init_7 : decode cX4_init 7 = .ok (.newarray .int, 2) := by decide +kernel
theorem dX4_init_9 : decode cX4_init 9 = .ok (.putfield 9, 3) := by decide +kernel
theorem dX4_init_12 : decode cX4_init 12 = .ok (.aload_n 0, 1) := by decide +kernel
theorem dX4_init_13 : decode cX4_init 13 = .ok (.bipush 24, 2) := by decide +kernel
theorem dX4_init_15 : decode cX4_init 15 = .ok (.newarray .int, 2) := by decide +kernel
theorem dX4_init_17 : decode cX4_init 17 = .ok (.putfield 15, 3) := by decide +kernel
theorem dX4_init_20 : decode cX4_init 20 = .ok (.return_, 1) := by decide +kernel
theorem dX4_append_0 : decode cX4_append 0 = .ok (.aload_n 0, 1) := by decide +kernel
theorem dX4_append_1 : decode cX4_append 1 = .ok (.getfield 18, 3) := by decide +kernel
theorem dX4_append_4 : decode cX4_append 4 = .ok (.bipush 24, 2) := by decide +kernel
theorem dX4_append_6 : decode cX4_append 6 = .ok (.if_icmp .lt 5, 3) := by decide +kernel
theorem dX4_append_9 : decode cX4_append 9 = .ok (.iconst 0, 1) := by decide +kernel
theorem dX4_append_10 : decode cX4_append 10 = .ok (.ireturn, 1) := by decide +kernel
theorem dX4_append_11 : decode cX4_append 11 = .ok (.aload_n 0, 1) := by decide +kernel
theorem dX4_append_12 : decode cX4_append 12 = .ok (.getfield 9, 3) := by decide +kernel
theorem dX4_append_15 : decode cX4_append 15 = .ok (.aload_n 0, 1) := by decide +kernel
theorem dX4_append_16 : decode cX4_append 16 = .ok (.getfield 18, 3) := by decide +kernel
theorem dX4_append_19 : decode cX4_append 19 = .ok (.iload_n 1, 1) := by decide +kernel
theorem dX4_append_20 : decode cX4_append 20 = .ok (.iastore, 1) := by decide +kernel
theorem dX4_append_21 : decode cX4_append 21 = .ok (.aload_n 0, 1) := by decide +kernel
theorem dX4_append_22 : decode cX4_append 22 = .ok (.getfield 15, 3) := by decide +kernel
theorem dX4_append_25 : decode cX4_append 25 = .ok (.aload_n 0, 1) := by decide +kernel
theorem dX4_append_26 : decode cX4_append 26 = .ok (.getfield 18, 3) := by decide +kernel
theorem dX4_append_29 : decode cX4_append 29 = .ok (.iload_n 2, 1) := by decide +kernel
theorem dX4_append_30 : decode cX4_append 30 = .ok (.iastore, 1) := by decide +kernel
theorem dX4_append_31 : decode cX4_append 31 = .ok (.aload_n 0, 1) := by decide +kernel
theorem dX4_append_32 : decode cX4_append 32 = .ok (.dup, 1) := by decide +kernel
theorem dX4_append_33 : decode cX4_append 33 = .ok (.getfield 18, 3) := by decide +kernel
theorem dX4_append_36 : decode cX4_append 36 = .ok (.iconst 1, 1) := by decide +kernel
theorem dX4_append_37 : decode cX4_append 37 = .ok (.iadd, 1) := by decide +kernel
theorem dX4_append_38 : decode cX4_append 38 = .ok (.putfield 18, 3) := by decide +kernel
theorem dX4_append_41 : decode cX4_append 41 = .ok (.iconst 1, 1) := by decide +kernel
theorem dX4_append_42 : decode cX4_append 42 = .ok (.ireturn, 1) := by decide +kernel
theorem dX4_removeAll_0 : decode cX4_removeAll 0 = .ok (.aload_n 0, 1) := by decide +kernel
theorem dX4_removeAll_1 : decode cX4_removeAll 1 = .ok (.iconst 0, 1) := by decide +kernel
theorem dX4_removeAll_2 : decode cX4_removeAll 2 = .ok (.putfield 18, 3) := by decide +kernel
theorem dX4_removeAll_5 : decode cX4_removeAll 5 = .ok (.return_, 1) := by decide +kernel
theorem dX4_copyFrom_0 : decode cX4_copyFrom 0 = .ok (.aload_n 0, 1) := by decide +kernel
theorem dX4_copyFrom_1 : decode cX4_copyFrom 1 = .ok (.aload_n 1, 1) := by decide +kernel
theorem dX4_copyFrom_2 : decode cX4_copyFrom 2 = .ok (.getfield 18, 3) := by decide +kernel
theorem dX4_copyFrom_5 : decode cX4_copyFrom 5 = .ok (.putfield 18, 3) := by decide +kernel
theorem dX4_copyFrom_8 : decode cX4_copyFrom 8 = .ok (.aload_n 1, 1) := by decide +kernel
theorem dX4_copyFrom_9 : decode cX4_copyFrom 9 = .ok (.getfield 9, 3) := by decide +kernel
theorem dX4_copyFrom_12 : decode cX4_copyFrom 12 = .ok (.iconst 0, 1) := by decide +kernel
theorem dX4_copyFrom_13 : decode cX4_copyFrom 13 = .ok (.aload_n 0, 1) := by decide +kernel
theorem dX4_copyFrom_14 : decode cX4_copyFrom 14 = .ok (.getfield 9, 3) := by decide +kernel
theorem dX4_copyFrom_17 : decode cX4_copyFrom 17 = .ok (.iconst 0, 1) := by decide +kernel
theorem dX4_copyFrom_18 : decode cX4_copyFrom 18 = .ok (.bipush 24, 2) := by decide +kernel
theorem dX4_copyFrom_20 : decode cX4_copyFrom 20 = .ok (.invokestatic 22, 3) := by decide +kernel
theorem dX4_copyFrom_23 : decode cX4_copyFrom 23 = .ok (.aload_n 1, 1) := by decide +kernel
theorem dX4_copyFrom_24 : decode cX4_copyFrom 24 = .ok (.getfield 15, 3) := by decide +kernel
theorem dX4_copyFrom_27 : decode cX4_copyFrom 27 = .ok (.iconst 0, 1) := by decide +kernel
theorem dX4_copyFrom_28 : decode cX4_copyFrom 28 = .ok (.aload_n 0, 1) := by decide +kernel
theorem dX4_copyFrom_29 : decode cX4_copyFrom 29 = .ok (.getfield 15, 3) := by decide +kernel
theorem dX4_copyFrom_32 : decode cX4_copyFrom 32 = .ok (.iconst 0, 1) := by decide +kernel
theorem dX4_copyFrom_33 : decode cX4_copyFrom 33 = .ok (.bipush 24, 2) := by decide +kernel
theorem dX4_copyFrom_35 : decode cX4_copyFrom 35 = .ok (.invokestatic 22, 3) := by decide +kernel
theorem dX4_copyFrom_38 : decode cX4_copyFrom 38 = .ok (.return_, 1) := by decide +kernel
set_option maxRecDepth 20000 in
theorem ggX5_init_X3_init : GoodIn wsX5_init wsX3_init := goodIn_r _ [22, 23, 2, 3, 24, 25, 13, 26, 27, 28, 29, 30, 31, 32, 33, 34, 35, 36, 69, 70, 71, 72, 93, 94, 95] (by decide +kernel) (by decide +kernel)
set_option maxRecDepth 20000 in
theorem gX5_init_X3_init : GoodIn wsX5_init (wsX3_init) := ggX5_init_X3_init
set_option maxRecDepth 20000 in
theorem ggX5_init_X0_init : GoodIn wsX5_init wsX0_init := goodIn_r _ [38, 39, 2, 3, 40, 41, 42, 43, 44, 45, 46, 13, 47, 48, 96, 97, 80, 81, 82, 83, 84, 85, 86, 87, 88] (by decide +kernel) (by decide +kernel)
set_option maxRecDepth 20000 in
theorem gX5_init_X0_init_n22 : GoodIn wsX5_init (wsX0_init) := ggX5_init_X0_init
set_option maxRecDepth 20000 in
theorem ggX5_init_J4_init_da8c8 : GoodIn wsX5_init wsJ4_init_da8c8 := goodIn_r _ [51, 52, 53, 54, 55, 56, 2, 3, 57, 58, 59, 60, 61, 62, 63, 64, 65, 66, 67, 68, 89, 90, 91, 92] (by decide +kernel) (by decide +kernel)
set_option maxRecDepth 20000 in
theorem gX5_init_J4_init_da8c8 : GoodIn wsX5_init (wsJ4_init_da8c8) := ggX5_init_J4_init_da8c8
theorem dX5_init_0 : decode cX5_init 0 = .ok (.aload_n 0, 1) := by decide +kernel
theorem dX5_init_1 : decode cX5_init 1 = .ok (.invokespecial 3, 3) := by decide +kernel
theorem dX5_init_4 : decode cX5_init 4 = .ok (.aload_n 0, 1) := by decide +kernel
theorem dX5_init_5 : decode cX5_init 5 = .ok (.new 9, 3) := by decide +kernel
theorem dX5_init_8 : decode cX5_init 8 = .ok (.dup, 1) := by decide +kernel
theorem dX5_init_9 : decode cX5_init 9 = .ok (.invokespecial 11, 3) := by decide +kernel
theorem dX5_init_12 : decode cX5_init 12 = .ok (.putfield 12, 3) := by decide +kernel
theorem dX5_init_15 : decode cX5_init 15 = .ok (.aload_n 0, 1) := by decide +kernel
theorem dX5_init_16 : decode cX5_init 16 = .ok (.bipush 8, 2) := by decide +kernel
theorem dX5_init_18 : decode cX5_init 18 = .ok (.anewarray 9, 3) := by decide +kernel
theorem dX5_init_21 : decode cX5_init 21 = .ok (.putfield 16, 3) := by decide +kernel
theorem dX5_init_24 : decode cX5_init 24 = .ok (.aload_n 0, 1) := by decide +kernel
theorem dX5_init_25 : decode cX5_init 25 = .ok (.new 20, 3) := by decide +kernel
theorem dX5_init_28 : decode cX5_init 28 = .ok (.dup, 1) := by decide +kernel
theorem dX5_init_29 : decode cX5_init 29 = .ok (.invokespecial 22, 3) := by decide +kernel
theorem dX5_init_32 : decode cX5_init 32 = .ok (.putfield 23, 3) := by decide +kernel
theorem dX5_init_35 : decode cX5_init 35 = .ok (.aload_n 0, 1) := by decide +kernel
theorem dX5_init_36 : decode cX5_init 36 = .ok (.bipush 7, 2) := by decide +kernel
theorem dX5_init_38 : decode cX5_init 38 = .ok (.newarray .int, 2) := by decide +kernel
theorem dX5_init_40 : decode cX5_init 40 = .ok (.putfield 27, 3) := by decide +kernel
theorem dX5_init_43 : decode cX5_init 43 = .ok (.aload_n 0, 1) := by decide +kernel
theorem dX5_init_44 : decode cX5_init 44 = .ok (.bipush 16, 2) := by decide +kernel
theorem dX5_init_46 : decode cX5_init 46 = .ok (.newarray .int, 2) := by decide +kernel
theorem dX5_init_48 : decode cX5_init 48 = .ok (.putfield 31, 3) := by decide +kernel
theorem dX5_init_51 : decode cX5_init 51 = .ok (.aload_n 0, 1) := by decide +kernel
theorem dX5_init_52 : decode cX5_init 52 = .ok (.new 34, 3) := by decide +kernel
theorem dX5_init_55 : decode cX5_init 55 = .ok (.dup, 1) := by decide +kernel
theorem dX5_init_56 : decode cX5_init 56 = .ok (.invokespecial 36, 3) := by decide +kernel
theorem dX5_init_59 : decode cX5_init 59 = .ok (.putfield 37, 3) := by decide +kernel
theorem dX5_init_62 : decode cX5_init 62 = .ok (.return_, 1) := by decide +kernel
set_option maxRecDepth 20000 in
theorem ggX5_word_X5_append : GoodIn wsX5_word wsX5_append := goodIn_r _ [6, 7, 8, 9, 10, 11, 12, 13, 14, 15, 16, 17, 18, 19, 20, 21, 22, 23, 24, 25, 26, 27, 28, 29, 30, 31, 32] (by decide +kernel) (by decide +kernel)
set_option maxRecDepth 20000 in
theorem gX5_word_X5_append : GoodIn wsX5_word (wsV RX5 42 RX5 yX5_append wsX5_append) := goodIn_app (goodIn_of _ (by decide +kernel)) ggX5_word_X5_append
theorem dX5_word_0 : decode cX5_word 0 = .ok (.iload_n 1, 1) := by decide +kernel
theorem dX5_word_1 : decode cX5_word 1 = .ok (.ifCond .lt 9, 3) := by decide +kernel
theorem dX5_word_4 : decode cX5_word 4 = .ok (.iload_n 1, 1) := by decide +kernel
theorem dX5_word_5 : decode cX5_word 5 = .ok (.bipush 25, 2) := by decide +kernel
theorem dX5_word_7 : decode cX5_word 7 = .ok (.if_icmp .le 6, 3) := by decide +kernel
theorem dX5_word_10 : decode cX5_word 10 = .ok (.ldc 41, 2) := by decide +kernel
theorem dX5_word_12 : decode cX5_word 12 = .ok (.ireturn, 1) := by decide +kernel
theorem dX5_word_13 : decode cX5_word 13 = .ok (.aload_n 0, 1) := by decide +kernel
theorem dX5_word_14 : decode cX5_word 14 = .ok (.iconst 0, 1) := by decide +kernel
theorem dX5_word_15 : decode cX5_word 15 = .ok (.iload_n 1, 1) := by decide +kernel
theorem dX5_word_16 : decode cX5_word 16 = .ok (.invokevirtual 42, 3) := by decide +kernel
theorem dX5_word_19 : decode cX5_word 19 = .ok (.ireturn, 1) := by decide +kernel
set_option maxRecDepth 20000 in
theorem ggX5_number_X5_isNumber : GoodIn wsX5_number wsX5_isNumber := goodIn_r _ [5] (by decide +kernel) (by decide +kernel)
set_option maxRecDepth 20000 in
theorem gX5_number_X5_isNumber : GoodIn wsX5_number (va_wsS RX5 46 yX5_isNumber wsX5_isNumber) := goodIn_app (goodIn_of _ (by decide +kernel)) ggX5_number_X5_isNumber
set_option maxRecDepth 20000 in
theorem ggX5_number_X5_append : GoodIn wsX5_number wsX5_append := goodIn_r _ [9, 10, 11, 12, 13, 14, 15, 16, 17, 18, 19, 20, 21, 22, 23, 24, 25, 26, 27, 28, 29, 30, 31, 32, 33, 34, 35] (by decide +kernel) (by decide +kernel)
set_option maxRecDepth 20000 in
theorem gX5_number_X5_append : GoodIn wsX5_number (wsV RX5 42 RX5 yX5_append wsX5_append) := goodIn_app (goodIn_of _ (by decide +kernel)) ggX5_number_X5_append
theorem dX5_number_0 : decode cX5_number 0 = .ok (.iload_n 1, 1) := by decide +kernel
theorem dX5_number_1 : decode cX5_number 1 = .ok (.invokestatic 46, 3) := by decide +kernel
theorem dX5_number_4 : decode cX5_number 4 = .ok (.ifCond .ne 6, 3) := by decide +kernel
theorem dX5_number_7 : decode cX5_number 7 = .ok (.ldc 41, 2) := by decide +kernel
theorem dX5_number_9 : decode cX5_number 9 = .ok (.ireturn, 1) := by decide +kernel
theorem dX5_number_10 : decode cX5_number 10 = .ok (.aload_n 0, 1) := by decide +kernel
theorem dX5_number_11 : decode cX5_number 11 = .ok (.iconst 1, 1) := by decide +kernel
theorem dX5_number_12 : decode cX5_number 12 = .ok (.iload_n 1, 1) := by decide +kernel
theorem dX5_number_13 : decode cX5_number 13 = .ok (.invokevirtual 42, 3) := by decide +kernel
theorem dX5_number_16 : decode cX5_number 16 = .ok (.ireturn, 1) := by decide +kernel
set_option maxRecDepth 20000 in
theorem ggX5_date_X5_isDate : GoodIn wsX5_date wsX5_isDate := goodIn_r _ [5, 6, 7, 4, 8, 9, 10, 11, 12] (by decide +kernel) (by decide +kernel)
set_option maxRecDepth 20000 in
theorem gX5_date_X5_isDate : GoodIn wsX5_date (va_wsS RX5 50 yX5_isDate wsX5_isDate) := goodIn_app (goodIn_of _ (by decide +kernel)) ggX5_date_X5_isDate
set_option maxRecDepth 20000 in
theorem ggX5_date_X5_daysBefore : GoodIn wsX5_date wsX5_daysBefore := goodIn_r _ [15, 16, 17, 4, 18, 10, 11, 12, 6, 7, 8, 9] (by decide +kernel) (by decide +kernel)
set_option maxRecDepth 20000 in
theorem gX5_date_X5_daysBefore : GoodIn wsX5_date (va_wsS RX5 54 yX5_daysBefore wsX5_daysBefore) := goodIn_app (goodIn_of _ (by decide +kernel)) ggX5_date_X5_daysBefore
set_option maxRecDepth 20000 in
theorem ggX5_date_X5_append : GoodIn wsX5_date wsX5_append := goodIn_r _ [22, 23, 24, 25, 26, 27, 28, 29, 30, 31, 32, 33, 34, 35, 36, 37, 38, 39, 40, 41, 42, 43, 44, 45, 46, 47, 48] (by decide +kernel) (by decide +kernel)
set_option maxRecDepth 20000 in
theorem gX5_date_X5_append : GoodIn wsX5_date (wsV RX5 42 RX5 yX5_append wsX5_append) := goodIn_app (goodIn_of _ (by decide +kernel)) ggX5_date_X5_append
theorem dX5_date_0 : decode cX5_date 0 = .ok (.iload_n 1, 1) := by decide +kernel
theorem dX5_date_1 : decode cX5_date 1 = .ok (.iload_n 2, 1) := by decide +kernel
theorem dX5_date_2 : decode cX5_date 2 = .ok (.iload_n 3, 1) := by decide +kernel
theorem dX5_date_3 : decode cX5_date 3 = .ok (.invokestatic 50, 3) := by decide +kernel
theorem dX5_date_6 : decode cX5_date 6 = .ok (.ifCond .ne 6, 3) := by decide +kernel
theorem dX5_date_9 : decode cX5_date 9 = .ok (.ldc 41, 2) := by decide +kernel
theorem dX5_date_11 : decode cX5_date 11 = .ok (.ireturn, 1) := by decide +kernel
theorem dX5_date_12 : decode cX5_date 12 = .ok (.aload_n 0, 1) := by decide +kernel
theorem dX5_date_13 : decode cX5_date 13 = .ok (.iconst 2, 1) := by decide +kernel
theorem dX5_date_14 : decode cX5_date 14 = .ok (.iload_n 1, 1) := by decide +kernel
theorem dX5_date_15 : decode cX5_date 15 = .ok (.iload_n 2, 1) := by decide +kernel
theorem dX5_date_16 : decode cX5_date 16 = .ok (.invokestatic 54, 3) := by decide +kernel
theorem dX5_date_19 : decode cX5_date 19 = .ok (.iload_n 3, 1) := by decide +kernel
theorem dX5_date_20 : decode cX5_date 20 = .ok (.iadd, 1) := by decide +kernel
theorem dX5_date_21 : decode cX5_date 21 = .ok (.iconst 1, 1) := by decide +kernel
theorem dX5_date_22 : decode cX5_date 22 = .ok (.isub, 1) := by decide +kernel
theorem dX5_date_23 : decode cX5_date 23 = .ok (.invokevirtual 42, 3) := by decide +kernel
theorem dX5_date_26 : decode cX5_date 26 = .ok (.ireturn, 1) := by decide +kernel
set_option maxRecDepth 20000 in
theorem ggX5_append_X4_append : GoodIn wsX5_append wsX4_append := goodIn_r _ [9, 10, 11, 12, 24, 25, 26] (by decide +kernel) (by decide +kernel)
set_option maxRecDepth 20000 in
theorem gX5_append_X4_append : GoodIn wsX5_append (wsV RX5 61 RX4 yX4_append wsX4_append) := goodIn_app (goodIn_of _ (by decide +kernel)) ggX5_append_X4_append
theorem dX5_append_0 : decode cX5_append 0 = .ok (.aload_n 0, 1) := by decide +kernel
theorem dX5_append_1 : decode cX5_append 1 = .ok (.getfield 12, 3) := by decide +kernel
theorem dX5_append_4 : decode cX5_append 4 = .ok (.getfield 57, 3) := by decide +kernel
theorem dX5_append_7 : decode cX5_append 7 = .ok (.iload_n 1, 1) := by decide +kernel
theorem dX5_append_8 : decode cX5_append 8 = .ok (.iload_n 2, 1) := by decide +kernel
theorem dX5_append_9 : decode cX5_append 9 = .ok (.invokevirtual 61, 3) := by decide +kernel
theorem dX5_append_12 : decode cX5_append 12 = .ok (.ifCond .eq 16, 3) := by decide +kernel
theorem dX5_append_15 : decode cX5_append 15 = .ok (.aload_n 0, 1) := by decide +kernel
theorem dX5_append_16 : decode cX5_append 16 = .ok (.getfield 12, 3) := by decide +kernel
theorem dX5_append_19 : decode cX5_append 19 = .ok (.getfield 57, 3) := by decide +kernel
theorem dX5_append_22 : decode cX5_append 22 = .ok (.getfield 66, 3) := by decide +kernel
theorem dX5_append_25 : decode cX5_append 25 = .ok (.goto 5, 3) := by decide +kernel
theorem dX5_append_28 : decode cX5_append 28 = .ok (.ldc 70, 2) := by decide +kernel
theorem dX5_append_30 : decode cX5_append 30 = .ok (.ireturn, 1) := by decide +kernel
set_option maxRecDepth 20000 in
theorem ggX5_clear_X4_removeAll : GoodIn wsX5_clear wsX4_removeAll := goodIn_r _ [8, 9, 21, 22, 23] (by decide +kernel) (by decide +kernel)
set_option maxRecDepth 20000 in
theorem gX5_clear_X4_removeAll : GoodIn wsX5_clear (wsV RX5 76 RX4 yX4_removeAll wsX4_removeAll) := goodIn_app (goodIn_of _ (by decide +kernel)) ggX5_clear_X4_removeAll
theorem dX5_clear_0 : decode cX5_clear 0 = .ok (.aload_n 0, 1) := by decide +kernel
theorem dX5_clear_1 : decode cX5_clear 1 = .ok (.getfield 12, 3) := by decide +kernel
theorem dX5_clear_4 : decode cX5_clear 4 = .ok (.getfield 57, 3) := by decide +kernel
theorem dX5_clear_7 : decode cX5_clear 7 = .ok (.getfield 66, 3) := by decide +kernel
theorem dX5_clear_10 : decode cX5_clear 10 = .ok (.istore_n 1, 1) := by decide +kernel
theorem dX5_clear_11 : decode cX5_clear 11 = .ok (.aload_n 0, 1) := by decide +kernel
theorem dX5_clear_12 : decode cX5_clear 12 = .ok (.getfield 12, 3) := by decide +kernel
theorem dX5_clear_15 : decode cX5_clear 15 = .ok (.getfield 57, 3) := by decide +kernel
theorem dX5_clear_18 : decode cX5_clear 18 = .ok (.invokevirtual 76, 3) := by decide +kernel
theorem dX5_clear_21 : decode cX5_clear 21 = .ok (.iload_n 1, 1) := by decide +kernel
theorem dX5_clear_22 : decode cX5_clear 22 = .ok (.ireturn, 1) := by decide +kernel
set_option maxRecDepth 20000 in
theorem ggX5_syntaxError_X0_firstError : GoodIn wsX5_syntaxError wsX0_firstError := goodIn_r _ [8, 9, 10, 11, 12, 13, 14, 15, 16, 7, 17, 18, 19, 20, 21, 22, 23, 24, 25, 26, 27, 28, 29, 30, 31, 32, 33, 34, 35, 36, 37, 38, 39, 40, 41, 42, 43, 44, 45, 46, 47, 48, 49, 50, 51, 52, 53, 54, 55, 56, 57, 58, 59, 60, 61, 62, 63, 64, 65, 66, 67, 68, 69, 70, 71, 72, 73, 74, 75, 76, 77, 78, 79, 80, 81, 82, 83, 84, 85, 86, 87, 88, 89, 90, 91, 92, 93, 94, 95, 96, 97, 98, 99, 100, 101, 102, 103, 104, 105, 106, 107, 108, 109, 110, 111, 112, 113, 125, 126, 127, 128, 129, 130, 131, 132, 133, 134, 135, 136, 137, 138] (by decide +kernel) (by decide +kernel)
set_option maxRecDepth 20000 in
theorem gX5_syntaxError_X0_firstError : GoodIn wsX5_syntaxError (wsV RX5 79 RX0 yX0_firstError wsX0_firstError) := goodIn_app (goodIn_of _ (by decide +kernel)) ggX5_syntaxError_X0_firstError
theorem dX5_syntaxError_0 : decode cX5_syntaxError 0 = .ok (.aload_n 0, 1) := by decide +kernel
theorem dX5_syntaxError_1 : decode cX5_syntaxError 1 = .ok (.getfield 23, 3) := by decide +kernel
theorem dX5_syntaxError_4 : decode cX5_syntaxError 4 = .ok (.aload_n 0, 1) := by decide +kernel
theorem dX5_syntaxError_5 : decode cX5_syntaxError 5 = .ok (.getfield 12, 3) := by decide +kernel
theorem dX5_syntaxError_8 : decode cX5_syntaxError 8 = .ok (.getfield 57, 3) := by decide +kernel
theorem dX5_syntaxError_11 : decode cX5_syntaxError 11 = .ok (.invokevirtual 79, 3) := by decide +kernel
theorem dX5_syntaxError_14 : decode cX5_syntaxError 14 = .ok (.ireturn, 1) := by decide +kernel
set_option maxRecDepth 20000 in
theorem ggX5_tell_X5_isTellable : GoodIn wsX5_tell wsX5_isTellable := goodIn_r _ [14, 9, 2, 8, 15, 16, 17, 18, 19, 20, 21, 22, 23, 24, 25, 26, 27, 28, 29, 30, 31, 32, 33, 34, 35, 36, 37, 38, 39, 40, 41, 42, 43, 44, 45, 13, 46, 47, 48, 49, 50, 51, 52, 53, 54, 55, 56, 57, 58, 59, 60, 61, 62, 63, 64, 65, 66, 67, 68, 69, 70, 71, 72, 73, 74, 75, 76, 77, 78, 79, 80, 81, 82, 83, 84, 85, 86, 87, 88, 89, 90, 91, 92, 93, 94, 95, 96, 97, 98, 99, 100, 101, 102, 103, 104, 105, 106, 107, 108, 109, 110, 111, 112, 113, 114, 115, 116, 117, 118, 119, 120, 121, 122, 123, 124, 125, 126, 127, 128, 129, 130, 131, 132, 133, 134, 135, 136, 137, 138, 139, 140, 141, 142, 143, 144, 145, 146, 147, 148, 149, 150, 151, 152, 153, 154, 155, 156, 157, 158, 531, 532, 533, 534, 535, 536, 537, 538, 539, 540, 541, 547, 548, 549, 550, 551, 552, 553, 554, 555, 556, 557, 558, 559, 560, 542, 543, 544, 545, 546] (by decide +kernel) (by decide +kernel)
set_option maxRecDepth 20000 in
theorem gX5_tell_X5_isTellable : GoodIn wsX5_tell (wsV RX5 83 RX5 yX5_isTellable wsX5_isTellable) := goodIn_app (goodIn_of _ (by decide +kernel)) ggX5_tell_X5_isTellable
set_option maxRecDepth 20000 in
theorem ggX5_tell_X5_recordNow : GoodIn wsX5_tell wsX5_recordNow := goodIn_r _ [162, 163, 164, 165, 166, 131, 2, 167, 168, 169, 13, 170, 171, 172, 173, 174, 175, 176, 177, 139, 178, 179, 180, 181, 182, 183, 184, 185, 186, 187, 188, 189, 190, 191, 192, 193, 133, 194, 195, 196, 197, 198, 199, 200, 201, 202, 203, 531, 532, 533, 534, 535, 536, 537, 538, 539, 540, 541, 556, 557, 558] (by decide +kernel) (by decide +kernel)
set_option maxRecDepth 20000 in
theorem gX5_tell_X5_recordNow : GoodIn wsX5_tell (wsV RX5 89 RX5 yX5_recordNow wsX5_recordNow) := goodIn_app (goodIn_of _ (by decide +kernel)) ggX5_tell_X5_recordNow
set_option maxRecDepth 20000 in
theorem ggX5_tell_X5_textOf : GoodIn wsX5_tell wsX5_textOf := goodIn_r _ [207, 208, 209, 210, 211, 212, 213, 214, 215, 216, 217, 218, 219, 220, 221, 222, 223, 224, 225, 226, 227, 228, 229, 230, 231, 232, 233, 234, 235, 236, 237, 238, 239, 240, 241, 242, 92, 93, 94, 243, 244, 245, 246, 247, 248, 249, 250, 251, 252, 253, 254, 255, 256, 257, 258, 102, 103, 259, 195, 196, 197, 260, 261, 262, 263, 264, 265, 266, 267, 268, 269, 270, 271, 272, 273, 274, 275, 276, 277, 278, 279, 280, 281, 282, 283, 284, 285, 286, 287, 288, 289, 290, 291, 292, 293, 294, 295, 296, 297, 298, 299, 300, 301, 302, 303, 304, 305, 306, 307, 308, 309, 310, 311, 312, 313, 314, 315, 316, 317, 318, 319, 320, 321, 322, 323, 324, 325, 326, 327, 328, 329, 330, 331, 332, 333, 334, 335, 336, 337, 338, 339, 340, 341, 342, 343, 344, 345, 13, 346, 347, 348, 349, 350, 351, 352, 353, 354, 355, 356, 357, 358, 359, 360, 361, 362, 363, 364, 365, 366, 367, 368, 369, 370, 371, 372, 373, 374, 375, 376, 377, 378, 379, 380, 381, 382, 383, 384, 385, 386, 387, 388, 389, 390, 391, 392, 393, 394, 395, 396, 397, 398, 399, 400, 401, 402, 403, 404, 405, 406, 407, 408, 409, 410, 411, 412, 413, 414, 415, 416, 417, 418, 419, 420, 421, 422, 423, 424, 425, 426, 427, 428, 429, 430, 431, 432, 433, 434, 435, 436, 437, 438, 439, 440, 441, 442, 443, 444, 445, 446, 447, 448, 449, 450, 451, 452, 453, 454, 455, 456, 457, 458, 459, 460, 461, 175, 176, 462, 463, 464, 465, 466, 467, 468, 469, 470, 471, 472, 473, 474, 475, 476, 477, 478, 479, 480, 481, 482, 483, 484, 485, 486, 487, 488, 489, 490, 491, 492, 493, 494, 495, 496, 497, 498, 499, 531, 532, 533, 534, 535, 536, 537, 556, 557, 558, 561, 562, 563, 564, 565, 566, 567, 568] (by decide +kernel) (by decide +kernel)
set_option maxRecDepth 20000 in
theorem gX5_tell_X5_textOf : GoodIn wsX5_tell (wsV RX5 94 RX5 yX5_textOf wsX5_textOf) := goodIn_app (goodIn_of _ (by decide +kernel)) ggX5_tell_X5_textOf
set_option maxRecDepth 20000 in
theorem ggX5_tell_X2_init : GoodIn wsX5_tell wsX2_init := goodIn_r _ [502, 503, 175, 176, 504, 505, 41, 506, 507, 508, 509, 510, 511, 512, 513, 514, 515, 516, 517, 178, 43, 44, 518, 519, 520, 521, 522, 195, 196, 197, 559, 560, 542, 543, 544, 545, 546, 547, 548, 549, 550, 551, 552, 553, 554, 555] (by decide +kernel) (by decide +kernel)
set_option maxRecDepth 20000 in
theorem gX5_tell_X2_init : GoodIn wsX5_tell (wsX2_init) := ggX5_tell_X2_init
set_option maxRecDepth 20000 in
theorem ggX5_tell_X3_addSentence : GoodIn wsX5_tell wsX3_addSentence := goodIn_r _ [526, 133, 139, 538, 539, 540, 541] (by decide +kernel) (by decide +kernel)
set_option maxRecDepth 20000 in
theorem gX5_tell_X3_addSentence : GoodIn wsX5_tell (wsV RX5 101 RX3 yX3_addSentence wsX3_addSentence) := goodIn_app (goodIn_of _ (by decide +kernel)) ggX5_tell_X3_addSentence
set_option maxRecDepth 20000 in
theorem ggX5_tell_X4_removeAll : GoodIn wsX5_tell wsX4_removeAll := goodIn_r _ [530, 202, 556, 557, 558] (by decide +kernel) (by decide +kernel)
set_option maxRecDepth 20000 in
theorem gX5_tell_X4_removeAll : GoodIn wsX5_tell (wsV RX5 76 RX4 yX4_removeAll wsX4_removeAll) := goodIn_app (goodIn_of _ (by decide +kernel)) ggX5_tell_X4_removeAll
theorem dX5_tell_0 : decode cX5_tell 0 = .ok (.aload_n 0, 1) := by decide +kernel
theorem dX5_tell_1 : decode cX5_tell 1 = .ok (.invokevirtual 83, 3) := by decide +kernel
theorem dX5_tell_4 : decode cX5_tell 4 = .ok (.ifCond .ne 6, 3) := by decide +kernel
theorem dX5_tell_7 : decode cX5_tell 7 = .ok (.ldc 75, 2) := by decide +kernel
theorem dX5_tell_9 : decode cX5_tell 9 = .ok (.ireturn, 1) := by decide +kernel
theorem dX5_tell_10 : decode cX5_tell 10 = .ok (.aload_n 0, 1) := by decide +kernel
theorem dX5_tell_11 : decode cX5_tell 11 = .ok (.getfield 12, 3) := by decide +kernel
theorem dX5_tell_14 : decode cX5_tell 14 = .ok (.getfield 86, 3) := by decide +kernel
theorem dX5_tell_17 : decode cX5_tell 17 = .ok (.bipush 16, 2) := by decide +kernel
theorem dX5_tell_19 : decode cX5_tell 19 = .ok (.if_icmp .lt 6, 3) := by decide +kernel
theorem dX5_tell_22 : decode cX5_tell 22 = .ok (.ldc 70, 2) := by decide +kernel
theorem dX5_tell_24 : decode cX5_tell 24 = .ok (.ireturn, 1) := by decide +kernel
theorem dX5_tell_25 : decode cX5_tell 25 = .ok (.aload_n 0, 1) := by decide +kernel
theorem dX5_tell_26 : decode cX5_tell 26 = .ok (.invokevirtual 89, 3) := by decide +kernel
theorem dX5_tell_29 : decode cX5_tell 29 = .ok (.aload_n 0, 1) := by decide +kernel
theorem dX5_tell_30 : decode cX5_tell 30 = .ok (.getfield 12, 3) := by decide +kernel
theorem dX5_tell_33 : decode cX5_tell 33 = .ok (.new 92, 3) := by decide +kernel
theorem dX5_tell_36 : decode cX5_tell 36 = .ok (.dup, 1) := by decide +kernel
theorem dX5_tell_37 : decode cX5_tell 37 = .ok (.aload_n 0, 1) := by decide +kernel
theorem dX5_tell_38 : decode cX5_tell 38 = .ok (.aload_n 0, 1) := by decide +kernel
theorem dX5_tell_39 : decode cX5_tell 39 = .ok (.getfield 12, 3) := by decide +kernel
theorem dX5_tell_42 : decode cX5_tell 42 = .ok (.getfield 57, 3) := by decide +kernel
theorem dX5_tell_45 : decode cX5_tell 45 = .ok (.invokevirtual 94, 3) := by decide +kernel
theorem dX5_tell_48 : decode cX5_tell 48 = .ok (.aload_n 0, 1) := by decide +kernel
theorem dX5_tell_49 : decode cX5_tell 49 = .ok (.getfield 23, 3) := by decide +kernel
theorem dX5_tell_52 : decode cX5_tell 52 = .ok (.invokespecial 98, 3) := by decide +kernel
theorem dX5_tell_55 : decode cX5_tell 55 = .ok (.invokevirtual 101, 3) := by decide +kernel
theorem dX5_tell_58 : decode cX5_tell 58 = .ok (.aload_n 0, 1) := by decide +kernel
theorem dX5_tell_59 : decode cX5_tell 59 = .ok (.getfield 12, 3) := by decide +kernel
theorem dX5_tell_62 : decode cX5_tell 62 = .ok (.getfield 57, 3) := by decide +kernel
theorem dX5_tell_65 : decode cX5_tell 65 = .ok (.invokevirtual 76, 3) := by decide +kernel
theorem dX5_tell_68 : decode cX5_tell 68 = .ok (.aload_n 0, 1) := by decide +kernel
theorem dX5_tell_69 : decode cX5_tell 69 = .ok (.getfield 12, 3) := by decide +kernel
theorem dX5_tell_72 : decode cX5_tell 72 = .ok (.getfield 86, 3) := by decide +kernel
theorem dX5_tell_75 : decode cX5_tell 75 = .ok (.iconst 1, 1) := by decide +kernel
theorem dX5_tell_76 : decode cX5_tell 76 = .ok (.isub, 1) := by decide +kernel
theorem dX5_tell_77 : decode cX5_tell 77 = .ok (.ireturn, 1) := by decide +kernel
set_option maxRecDepth 20000 in
theorem ggX5_isTellable_X0_firstError : GoodIn wsX5_isTellable wsX0_firstError := goodIn_r _ [12, 13, 14, 15, 16, 17, 18, 19, 20, 11, 21, 22, 23, 24, 25, 26, 27, 28, 29, 30, 31, 32, 33, 34, 35, 36, 37, 38, 39, 40, 41, 42, 43, 44, 45, 46, 47, 48, 49, 50, 51, 52, 53, 54, 55, 56, 57, 58, 59, 60, 61, 62, 63, 64, 65, 66, 67, 68, 69, 70, 71, 72, 73, 74, 75, 76, 77, 78, 79, 80, 81, 82, 83, 84, 85, 86, 87, 88, 89, 90, 91, 92, 93, 94, 95, 96, 97, 98, 99, 100, 101, 102, 103, 104, 105, 106, 107, 108, 109, 110, 111, 112, 113, 114, 115, 116, 117, 169, 170, 171, 160, 161, 162, 163, 164, 165, 166, 167, 168, 172, 173] (by decide +kernel) (by decide +kernel)
set_option maxRecDepth 20000 in
theorem gX5_isTellable_X0_firstError : GoodIn wsX5_isTellable (wsV RX5 79 RX0 yX0_firstError wsX0_firstError) := goodIn_app (goodIn_of _ (by decide +kernel)) ggX5_isTellable_X0_firstError
set_option maxRecDepth 20000 in
theorem ggX5_isTellable_X3_definitionOf : GoodIn wsX5_isTellable wsX3_definitionOf := goodIn_r _ [122, 123, 124, 125, 126, 127, 121, 128, 129, 156, 157, 158, 159, 174, 175, 176, 177, 178] (by decide +kernel) (by decide +kernel)
set_option maxRecDepth 20000 in
theorem gX5_isTellable_X3_definitionOf : GoodIn wsX5_isTellable (wsV RX5 109 RX3 yX3_definitionOf wsX3_definitionOf) := goodIn_app (goodIn_of _ (by decide +kernel)) ggX5_isTellable_X3_definitionOf
set_option maxRecDepth 20000 in
theorem ggX5_isTellable_X5_isBitSet : GoodIn wsX5_isTellable wsX5_isBitSet := goodIn_r _ [132] (by decide +kernel) (by decide +kernel)
set_option maxRecDepth 20000 in
theorem gX5_isTellable_X5_isBitSet : GoodIn wsX5_isTellable (va_wsS RX5 116 yX5_isBitSet wsX5_isBitSet) := goodIn_app (goodIn_of _ (by decide +kernel)) ggX5_isTellable_X5_isBitSet
set_option maxRecDepth 20000 in
theorem ggX5_isTellable_X5_narrowByDefinition : GoodIn wsX5_isTellable wsX5_narrowByDefinition := goodIn_r _ [136, 2, 1, 7, 137, 118, 119, 120, 121, 122, 123, 124, 125, 126, 127, 128, 129, 138, 139, 140, 141, 30, 142, 32, 33, 143, 78, 79, 80, 81, 82, 83, 84, 85, 35, 86, 144, 88, 89, 90, 91, 92, 93, 149, 150, 151, 152, 153, 154, 155, 160, 161, 162, 163, 164, 165, 166, 167, 168, 174, 175, 176, 177, 178, 156, 157, 158, 159, 172, 173] (by decide +kernel) (by decide +kernel)
set_option maxRecDepth 20000 in
theorem gX5_isTellable_X5_narrowByDefinition : GoodIn wsX5_isTellable (wsV RX5 119 RX5 yX5_narrowByDefinition wsX5_narrowByDefinition) := goodIn_app (goodIn_of _ (by decide +kernel)) ggX5_isTellable_X5_narrowByDefinition
set_option maxRecDepth 20000 in
theorem ggX5_isTellable_X1_isEmpty : GoodIn wsX5_isTellable wsX1_isEmpty := goodIn_r _ [148, 32, 33, 172, 173] (by decide +kernel) (by decide +kernel)
set_option maxRecDepth 20000 in
theorem gX5_isTellable_X1_isEmpty : GoodIn wsX5_isTellable (wsV RX5 126 RX1 yX1_isEmpty wsX1_isEmpty) := goodIn_app (goodIn_of _ (by decide +kernel)) ggX5_isTellable_X1_isEmpty
theorem dX5_isTellable_0 : decode cX5_isTellable 0 = .ok (.aload_n 0, 1) := by decide +kernel
theorem dX5_isTellable_1 : decode cX5_isTellable 1 = .ok (.getfield 23, 3) := by decide +kernel
theorem dX5_isTellable_4 : decode cX5_isTellable 4 = .ok (.aload_n 0, 1) := by decide +kernel
theorem dX5_isTellable_5 : decode cX5_isTellable 5 = .ok (.getfield 12, 3) := by decide +kernel
theorem dX5_isTellable_8 : decode cX5_isTellable 8 = .ok (.getfield 57, 3) := by decide +kernel
theorem dX5_isTellable_11 : decode cX5_isTellable 11 = .ok (.invokevirtual 79, 3) := by decide +kernel
theorem dX5_isTellable_14 : decode cX5_isTellable 14 = .ok (.ldc 105, 2) := by decide +kernel
theorem dX5_isTellable_16 : decode cX5_isTellable 16 = .ok (.if_icmp .eq 5, 3) := by decide +kernel
theorem dX5_isTellable_19 : decode cX5_isTellable 19 = .ok (.iconst 0, 1) := by decide +kernel
theorem dX5_isTellable_20 : decode cX5_isTellable 20 = .ok (.ireturn, 1) := by decide +kernel
theorem dX5_isTellable_21 : decode cX5_isTellable 21 = .ok (.aload_n 0, 1) := by decide +kernel
theorem dX5_isTellable_22 : decode cX5_isTellable 22 = .ok (.getfield 23, 3) := by decide +kernel
theorem dX5_isTellable_25 : decode cX5_isTellable 25 = .ok (.getfield 106, 3) := by decide +kernel
theorem dX5_isTellable_28 : decode cX5_isTellable 28 = .ok (.bipush 10, 2) := by decide +kernel
theorem dX5_isTellable_30 : decode cX5_isTellable 30 = .ok (.if_icmp .lt 26, 3) := by decide +kernel
theorem dX5_isTellable_33 : decode cX5_isTellable 33 = .ok (.aload_n 0, 1) := by decide +kernel
theorem dX5_isTellable_34 : decode cX5_isTellable 34 = .ok (.getfield 12, 3) := by decide +kernel
theorem dX5_isTellable_37 : decode cX5_isTellable 37 = .ok (.aload_n 0, 1) := by decide +kernel
theorem dX5_isTellable_38 : decode cX5_isTellable 38 = .ok (.getfield 23, 3) := by decide +kernel
theorem dX5_isTellable_41 : decode cX5_isTellable 41 = .ok (.getfield 106, 3) := by decide +kernel
theorem dX5_isTellable_44 : decode cX5_isTellable 44 = .ok (.bipush 10, 2) := by decide +kernel
theorem dX5_isTellable_46 : decode cX5_isTellable 46 = .ok (.isub, 1) := by decide +kernel
theorem dX5_isTellable_47 : decode cX5_isTellable 47 = .ok (.invokevirtual 109, 3) := by decide +kernel
theorem dX5_isTellable_50 : decode cX5_isTellable 50 = .ok (.iconst (-1), 1) := by decide +kernel
theorem dX5_isTellable_51 : decode cX5_isTellable 51 = .ok (.if_icmp .eq 5, 3) := by decide +kernel
theorem dX5_isTellable_54 : decode cX5_isTellable 54 = .ok (.iconst 0, 1) := by decide +kernel
theorem dX5_isTellable_55 : decode cX5_isTellable 55 = .ok (.ireturn, 1) := by decide +kernel
theorem dX5_isTellable_56 : decode cX5_isTellable 56 = .ok (.iconst 0, 1) := by decide +kernel
