theorem dX5_init_0 : decode cX5_init 0 = .ok (.aload_n 0, 1) := by decide +kernel
theorem dX5_init_1 : decode cX5_init 1 = .ok (.invokespecial 1, 3) := by decide +kernel
theorem dX5_init_4 : decode cX5_init 4 = .ok (.aload_n 0, 1) := by decide +kernel
theorem dX5_init_5 : decode cX5_init 5 = .ok (.new 7, 3) := by decide +kernel
theorem dX5_init_8 : decode cX5_init 8 = .ok (.dup, 1) := by decide +kernel
theorem dX5_init_9 : decode cX5_init 9 = .ok (.invokespecial 9, 3) := by decide +kernel
theorem dX5_init_12 : decode cX5_init 12 = .ok (.putfield 10, 3) := by decide +kernel
theorem dX5_init_15 : decode cX5_init 15 = .ok (.aload_n 0, 1) := by decide +kernel
theorem dX5_init_16 : decode cX5_init 16 = .ok (.new 16, 3) := by decide +kernel
theorem dX5_init_19 : decode cX5_init 19 = .ok (.dup, 1) := by decide +kernel
theorem dX5_init_20 : decode cX5_init 20 = .ok (.aload_n 0, 1) := by decide +kernel
theorem dX5_init_21 : decode cX5_init 21 = .ok (.getfield 10, 3) := by decide +kernel
theorem dX5_init_24 : decode cX5_init 24 = .ok (.invokespecial 18, 3) := by decide +kernel
theorem dX5_init_27 : decode cX5_init 27 = .ok (.putfield 21, 3) := by decide +kernel
theorem dX5_init_30 : decode cX5_init 30 = .ok (.aload_n 0, 1) := by decide +kernel
theorem dX5_init_31 : decode cX5_init 31 = .ok (.new 25, 3) := by decide +kernel
theorem dX5_init_34 : decode cX5_init 34 = .ok (.dup, 1) := by decide +kernel
theorem dX5_init_35 : decode cX5_init 35 = .ok (.aload_n 0, 1) := by decide +kernel
theorem dX5_init_36 : decode cX5_init 36 = .ok (.getfield 10, 3) := by decide +kernel
theorem dX5_init_39 : decode cX5_init 39 = .ok (.iconst 0, 1) := by decide +kernel
theorem dX5_init_40 : decode cX5_init 40 = .ok (.invokespecial 27, 3) := by decide +kernel
theorem dX5_init_43 : decode cX5_init 43 = .ok (.putfield 30, 3) := by decide +kernel
theorem dX5_init_46 : decode cX5_init 46 = .ok (.aload_n 0, 1) := by decide +kernel
theorem dX5_init_47 : decode cX5_init 47 = .ok (.new 25, 3) := by decide +kernel
theorem dX5_init_50 : decode cX5_init 50 = .ok (.dup, 1) := by decide +kernel
theorem dX5_init_51 : decode cX5_init 51 = .ok (.aload_n 0, 1) := by decide +kernel
theorem dX5_init_52 : decode cX5_init 52 = .ok (.getfield 10, 3) := by decide +kernel
theorem dX5_init_55 : decode cX5_init 55 = .ok (.iconst 1, 1) := by decide +kernel
theorem dX5_init_56 : decode cX5_init 56 = .ok (.invokespecial 27, 3) := by decide +kernel
theorem dX5_init_59 : decode cX5_init 59 = .ok (.putfield 34, 3) := by decide +kernel
theorem dX5_init_62 : decode cX5_init 62 = .ok (.aload_n 0, 1) := by decide +kernel
theorem dX5_init_63 : decode cX5_init 63 = .ok (.new 25, 3) := by decide +kernel
theorem dX5_init_66 : decode cX5_init 66 = .ok (.dup, 1) := by decide +kernel
theorem dX5_init_67 : decode cX5_init 67 = .ok (.aload_n 0, 1) := by decide +kernel
theorem dX5_init_68 : decode cX5_init 68 = .ok (.getfield 10, 3) := by decide +kernel
theorem dX5_init_71 : decode cX5_init 71 = .ok (.iconst 2, 1) := by decide +kernel
theorem dX5_init_72 : decode cX5_init 72 = .ok (.invokespecial 27, 3) := by decide +kernel
theorem dX5_init_75 : decode cX5_init 75 = .ok (.putfield 37, 3) := by decide +kernel
theorem dX5_init_78 : decode cX5_init 78 = .ok (.aload_n 0, 1) := by decide +kernel
theorem dX5_init_79 : decode cX5_init 79 = .ok (.new 40, 3) := by decide +kernel
theorem dX5_init_82 : decode cX5_init 82 = .ok (.dup, 1) := by decide +kernel
theorem dX5_init_83 : decode cX5_init 83 = .ok (.aload_n 0, 1) := by decide +kernel
theorem dX5_init_84 : decode cX5_init 84 = .ok (.getfield 10, 3) := by decide +kernel
theorem dX5_init_87 : decode cX5_init 87 = .ok (.invokespecial 42, 3) := by decide +kernel
theorem dX5_init_90 : decode cX5_init 90 = .ok (.putfield 43, 3) := by decide +kernel
theorem dX5_init_93 : decode cX5_init 93 = .ok (.aload_n 0, 1) := by decide +kernel
theorem dX5_init_94 : decode cX5_init 94 = .ok (.new 47, 3) := by decide +kernel
theorem dX5_init_97 : decode cX5_init 97 = .ok (.dup, 1) := by decide +kernel
theorem dX5_init_98 : decode cX5_init 98 = .ok (.invokespecial 49, 3) := by decide +kernel
theorem dX5_init_101 : decode cX5_init 101 = .ok (.putfield 50, 3) := by decide +kernel
theorem dX5_init_104 : decode cX5_init 104 = .ok (.return_, 1) := by decide +kernel
set_option maxRecDepth 20000 in
theorem ggX5_steps_X0_count : GoodIn wsX5_steps wsX0_count := goodIn_r _ [12, 13, 39, 40] (by decide +kernel) (by decide +kernel)
set_option maxRecDepth 20000 in
theorem gX5_steps_X0_count : GoodIn wsX5_steps (wsV RX5 61 RX0 yX0_count wsX0_count) := goodIn_app (goodIn_of _ (by decide +kernel)) ggX5_steps_X0_count
set_option maxRecDepth 20000 in
theorem ggX5_steps_X0_become : GoodIn wsX5_steps wsX0_become := goodIn_r _ [17, 13, 18, 39, 40] (by decide +kernel) (by decide +kernel)
set_option maxRecDepth 20000 in
theorem gX5_steps_X0_become : GoodIn wsX5_steps (wsV RX5 65 RX0 yX0_become wsX0_become) := goodIn_app (goodIn_of _ (by decide +kernel)) ggX5_steps_X0_become
set_option maxRecDepth 20000 in
theorem ggX5_steps_X1_forget : GoodIn wsX5_steps wsX1_forget := goodIn_r _ [23, 24, 41, 42, 43, 44] (by decide +kernel) (by decide +kernel)
set_option maxRecDepth 20000 in
theorem gX5_steps_X1_forget : GoodIn wsX5_steps (wsV RX5 69 RX1 yX1_forget wsX1_forget) := goodIn_app (goodIn_of _ (by decide +kernel)) ggX5_steps_X1_forget
set_option maxRecDepth 20000 in
theorem ggX5_steps_X3_empty : GoodIn wsX5_steps wsX3_empty := goodIn_r _ [29, 30, 31, 45, 46, 47, 48] (by decide +kernel) (by decide +kernel)
set_option maxRecDepth 20000 in
theorem gX5_steps_X3_empty : GoodIn wsX5_steps (wsV RX5 72 RX3 yX3_empty wsX3_empty) := goodIn_app (goodIn_of _ (by decide +kernel)) ggX5_steps_X3_empty
theorem dX5_steps_0 : decode cX5_steps 0 = .ok (.iload_n 1, 1) := by decide +kernel
theorem dX5_steps_1 : decode cX5_steps 1 = .ok (.ifCond .ne 13, 3) := by decide +kernel
theorem dX5_steps_4 : decode cX5_steps 4 = .ok (.new 54, 3) := by decide +kernel
theorem dX5_steps_7 : decode cX5_steps 7 = .ok (.dup, 1) := by decide +kernel
theorem dX5_steps_8 : decode cX5_steps 8 = .ok (.ldc 56, 2) := by decide +kernel
theorem dX5_steps_10 : decode cX5_steps 10 = .ok (.invokespecial 58, 3) := by decide +kernel
theorem dX5_steps_13 : decode cX5_steps 13 = .ok (.athrow, 1) := by decide +kernel
theorem dX5_steps_14 : decode cX5_steps 14 = .ok (.iload_n 1, 1) := by decide +kernel
theorem dX5_steps_15 : decode cX5_steps 15 = .ok (.ifCond .lt 9, 3) := by decide +kernel
theorem dX5_steps_18 : decode cX5_steps 18 = .ok (.iload_n 1, 1) := by decide +kernel
theorem dX5_steps_19 : decode cX5_steps 19 = .ok (.bipush 12, 2) := by decide +kernel
theorem dX5_steps_21 : decode cX5_steps 21 = .ok (.if_icmp .le 6, 3) := by decide +kernel
theorem dX5_steps_24 : decode cX5_steps 24 = .ok (.bipush (-2), 2) := by decide +kernel
theorem dX5_steps_26 : decode cX5_steps 26 = .ok (.ireturn, 1) := by decide +kernel
theorem dX5_steps_27 : decode cX5_steps 27 = .ok (.aload_n 0, 1) := by decide +kernel
theorem dX5_steps_28 : decode cX5_steps 28 = .ok (.getfield 10, 3) := by decide +kernel
theorem dX5_steps_31 : decode cX5_steps 31 = .ok (.invokevirtual 61, 3) := by decide +kernel
theorem dX5_steps_34 : decode cX5_steps 34 = .ok (.iload_n 1, 1) := by decide +kernel
theorem dX5_steps_35 : decode cX5_steps 35 = .ok (.irem, 1) := by decide +kernel
theorem dX5_steps_36 : decode cX5_steps 36 = .ok (.istore_n 2, 1) := by decide +kernel
theorem dX5_steps_37 : decode cX5_steps 37 = .ok (.aload_n 0, 1) := by decide +kernel
theorem dX5_steps_38 : decode cX5_steps 38 = .ok (.getfield 10, 3) := by decide +kernel
theorem dX5_steps_41 : decode cX5_steps 41 = .ok (.iload_n 1, 1) := by decide +kernel
theorem dX5_steps_42 : decode cX5_steps 42 = .ok (.invokevirtual 65, 3) := by decide +kernel
theorem dX5_steps_45 : decode cX5_steps 45 = .ok (.aload_n 0, 1) := by decide +kernel
theorem dX5_steps_46 : decode cX5_steps 46 = .ok (.getfield 30, 3) := by decide +kernel
theorem dX5_steps_49 : decode cX5_steps 49 = .ok (.invokevirtual 69, 3) := by decide +kernel
theorem dX5_steps_52 : decode cX5_steps 52 = .ok (.aload_n 0, 1) := by decide +kernel
theorem dX5_steps_53 : decode cX5_steps 53 = .ok (.getfield 34, 3) := by decide +kernel
theorem dX5_steps_56 : decode cX5_steps 56 = .ok (.invokevirtual 69, 3) := by decide +kernel
theorem dX5_steps_59 : decode cX5_steps 59 = .ok (.aload_n 0, 1) := by decide +kernel
theorem dX5_steps_60 : decode cX5_steps 60 = .ok (.getfield 37, 3) := by decide +kernel
theorem dX5_steps_63 : decode cX5_steps 63 = .ok (.invokevirtual 69, 3) := by decide +kernel
theorem dX5_steps_66 : decode cX5_steps 66 = .ok (.aload_n 0, 1) := by decide +kernel
theorem dX5_steps_67 : decode cX5_steps 67 = .ok (.getfield 43, 3) := by decide +kernel
theorem dX5_steps_70 : decode cX5_steps 70 = .ok (.invokevirtual 72, 3) := by decide +kernel
theorem dX5_steps_73 : decode cX5_steps 73 = .ok (.iload_n 2, 1) := by decide +kernel
theorem dX5_steps_74 : decode cX5_steps 74 = .ok (.ireturn, 1) := by decide +kernel
set_option maxRecDepth 20000 in
theorem ggX5_least_X0_hasSet : GoodIn wsX5_least wsX0_hasSet := goodIn_r _ [6, 7, 50, 51] (by decide +kernel) (by decide +kernel)
set_option maxRecDepth 20000 in
theorem gX5_least_X0_hasSet : GoodIn wsX5_least (wsV RX5 75 RX0 yX0_hasSet wsX0_hasSet) := goodIn_app (goodIn_of _ (by decide +kernel)) ggX5_least_X0_hasSet
set_option maxRecDepth 20000 in
theorem ggX5_least_X5_isClassKind : GoodIn wsX5_least wsX5_isClassKind := goodIn_r _ [11] (by decide +kernel) (by decide +kernel)
set_option maxRecDepth 20000 in
theorem gX5_least_X5_isClassKind : GoodIn wsX5_least (va_wsS RX5 79 yX5_isClassKind wsX5_isClassKind) := goodIn_app (goodIn_of _ (by decide +kernel)) ggX5_least_X5_isClassKind
set_option maxRecDepth 20000 in
theorem ggX5_least_X0_leastOf : GoodIn wsX5_least wsX0_leastOf := goodIn_r _ [15, 16, 17, 18, 19, 20, 21, 22, 23, 5, 24, 25, 10, 26, 27, 28, 29, 30, 31, 32, 33, 34, 35, 36, 37, 38, 39, 40, 41, 42, 7, 50, 51] (by decide +kernel) (by decide +kernel)
set_option maxRecDepth 20000 in
theorem gX5_least_X0_leastOf : GoodIn wsX5_least (wsV RX5 82 RX0 yX0_leastOf wsX0_leastOf) := goodIn_app (goodIn_of _ (by decide +kernel)) ggX5_least_X0_leastOf
theorem dX5_least_0 : decode cX5_least 0 = .ok (.aload_n 0, 1) := by decide +kernel
theorem dX5_least_1 : decode cX5_least 1 = .ok (.getfield 10, 3) := by decide +kernel
theorem dX5_least_4 : decode cX5_least 4 = .ok (.iload_n 1, 1) := by decide +kernel
theorem dX5_least_5 : decode cX5_least 5 = .ok (.invokevirtual 75, 3) := by decide +kernel
theorem dX5_least_8 : decode cX5_least 8 = .ok (.ifCond .eq 10, 3) := by decide +kernel
theorem dX5_least_11 : decode cX5_least 11 = .ok (.iload_n 2, 1) := by decide +kernel
theorem dX5_least_12 : decode cX5_least 12 = .ok (.invokestatic 79, 3) := by decide +kernel
theorem dX5_least_15 : decode cX5_least 15 = .ok (.ifCond .ne 6, 3) := by decide +kernel
theorem dX5_least_18 : decode cX5_least 18 = .ok (.bipush (-2), 2) := by decide +kernel
theorem dX5_least_20 : decode cX5_least 20 = .ok (.ireturn, 1) := by decide +kernel
theorem dX5_least_21 : decode cX5_least 21 = .ok (.aload_n 0, 1) := by decide +kernel
theorem dX5_least_22 : decode cX5_least 22 = .ok (.getfield 10, 3) := by decide +kernel
theorem dX5_least_25 : decode cX5_least 25 = .ok (.iload_n 1, 1) := by decide +kernel
theorem dX5_least_26 : decode cX5_least 26 = .ok (.iload_n 2, 1) := by decide +kernel
theorem dX5_least_27 : decode cX5_least 27 = .ok (.invokevirtual 82, 3) := by decide +kernel
theorem dX5_least_30 : decode cX5_least 30 = .ok (.ireturn, 1) := by decide +kernel
set_option maxRecDepth 20000 in
theorem ggX5_size_X0_hasSet : GoodIn wsX5_size wsX0_hasSet := goodIn_r _ [6, 7, 56, 57] (by decide +kernel) (by decide +kernel)
set_option maxRecDepth 20000 in
theorem gX5_size_X0_hasSet : GoodIn wsX5_size (wsV RX5 75 RX0 yX0_hasSet wsX0_hasSet) := goodIn_app (goodIn_of _ (by decide +kernel)) ggX5_size_X0_hasSet
set_option maxRecDepth 20000 in
theorem ggX5_size_X5_isClassKind : GoodIn wsX5_size wsX5_isClassKind := goodIn_r _ [11] (by decide +kernel) (by decide +kernel)
set_option maxRecDepth 20000 in
theorem gX5_size_X5_isClassKind : GoodIn wsX5_size (va_wsS RX5 79 yX5_isClassKind wsX5_isClassKind) := goodIn_app (goodIn_of _ (by decide +kernel)) ggX5_size_X5_isClassKind
set_option maxRecDepth 20000 in
theorem ggX5_size_X0_all : GoodIn wsX5_size wsX0_all := goodIn_r _ [15, 7, 56, 57] (by decide +kernel) (by decide +kernel)
set_option maxRecDepth 20000 in
theorem gX5_size_X0_all : GoodIn wsX5_size (wsV RX5 86 RX0 yX0_all wsX0_all) := goodIn_app (goodIn_of _ (by decide +kernel)) ggX5_size_X0_all
set_option maxRecDepth 20000 in
theorem ggX5_size_X0_membersInside : GoodIn wsX5_size wsX0_membersInside := goodIn_r _ [19, 20, 21, 22, 5, 23, 24, 25, 26, 27, 28, 29, 10, 30, 31, 32, 33, 34, 35, 36, 37, 38, 39, 40, 41, 42, 43, 44, 45, 46, 7, 47, 48, 56, 57] (by decide +kernel) (by decide +kernel)
set_option maxRecDepth 20000 in
theorem gX5_size_X0_membersInside : GoodIn wsX5_size (wsV RX5 89 RX0 yX0_membersInside wsX0_membersInside) := goodIn_app (goodIn_of _ (by decide +kernel)) ggX5_size_X0_membersInside
theorem dX5_size_0 : decode cX5_size 0 = .ok (.aload_n 0, 1) := by decide +kernel
theorem dX5_size_1 : decode cX5_size 1 = .ok (.getfield 10, 3) := by decide +kernel
theorem dX5_size_4 : decode cX5_size 4 = .ok (.iload_n 1, 1) := by decide +kernel
theorem dX5_size_5 : decode cX5_size 5 = .ok (.invokevirtual 75, 3) := by decide +kernel
theorem dX5_size_8 : decode cX5_size 8 = .ok (.ifCond .eq 10, 3) := by decide +kernel
theorem dX5_size_11 : decode cX5_size 11 = .ok (.iload_n 2, 1) := by decide +kernel
theorem dX5_size_12 : decode cX5_size 12 = .ok (.invokestatic 79, 3) := by decide +kernel
theorem dX5_size_15 : decode cX5_size 15 = .ok (.ifCond .ne 6, 3) := by decide +kernel
theorem dX5_size_18 : decode cX5_size 18 = .ok (.bipush (-2), 2) := by decide +kernel
theorem dX5_size_20 : decode cX5_size 20 = .ok (.ireturn, 1) := by decide +kernel
theorem dX5_size_21 : decode cX5_size 21 = .ok (.aload_n 0, 1) := by decide +kernel
theorem dX5_size_22 : decode cX5_size 22 = .ok (.getfield 10, 3) := by decide +kernel
theorem dX5_size_25 : decode cX5_size 25 = .ok (.iload_n 1, 1) := by decide +kernel
theorem dX5_size_26 : decode cX5_size 26 = .ok (.iload_n 2, 1) := by decide +kernel
theorem dX5_size_27 : decode cX5_size 27 = .ok (.aload_n 0, 1) := by decide +kernel
theorem dX5_size_28 : decode cX5_size 28 = .ok (.getfield 10, 3) := by decide +kernel
theorem dX5_size_31 : decode cX5_size 31 = .ok (.invokevirtual 86, 3) := by decide +kernel
theorem dX5_size_34 : decode cX5_size 34 = .ok (.invokevirtual 89, 3) := by decide +kernel
theorem dX5_size_37 : decode cX5_size 37 = .ok (.ireturn, 1) := by decide +kernel
set_option maxRecDepth 20000 in
theorem ggX5_classes_X5_isSetSize : GoodIn wsX5_classes wsX5_isSetSize := goodIn_r _ [5, 6, 7, 8, 9, 10, 11, 12, 94, 95, 96, 97, 98, 99, 100, 101, 102] (by decide +kernel) (by decide +kernel)
set_option maxRecDepth 20000 in
theorem gX5_classes_X5_isSetSize : GoodIn wsX5_classes (wsV RX5 93 RX5 yX5_isSetSize wsX5_isSetSize) := goodIn_app (goodIn_of _ (by decide +kernel)) ggX5_classes_X5_isSetSize
set_option maxRecDepth 20000 in
theorem ggX5_classes_X5_isClassKind : GoodIn wsX5_classes wsX5_isClassKind := goodIn_r _ [15] (by decide +kernel) (by decide +kernel)
set_option maxRecDepth 20000 in
theorem gX5_classes_X5_isClassKind : GoodIn wsX5_classes (va_wsS RX5 79 yX5_isClassKind wsX5_isClassKind) := goodIn_app (goodIn_of _ (by decide +kernel)) ggX5_classes_X5_isClassKind
set_option maxRecDepth 20000 in
theorem ggX5_classes_X5_listOf : GoodIn wsX5_classes wsX5_listOf := goodIn_r _ [19, 20, 21, 22, 94, 95, 96, 97, 98, 99, 100] (by decide +kernel) (by decide +kernel)
set_option maxRecDepth 20000 in
theorem gX5_classes_X5_listOf : GoodIn wsX5_classes (wsV RX5 96 RX5 yX5_listOf wsX5_listOf) := goodIn_app (goodIn_of _ (by decide +kernel)) ggX5_classes_X5_listOf
set_option maxRecDepth 20000 in
theorem ggX5_classes_X1_countOfSize : GoodIn wsX5_classes wsX1_countOfSize := goodIn_r _ [27, 28, 29, 30, 26, 31, 32, 33, 34, 35, 36, 37, 38, 39, 40, 41, 42, 43, 44, 45, 46, 10, 47, 48, 49, 50, 51, 52, 12, 53, 54, 55, 56, 57, 58, 59, 60, 61, 62, 63, 64, 65, 66, 67, 68, 69, 4, 70, 71, 72, 73, 74, 75, 76, 77, 78, 79, 80, 81, 82, 83, 84, 85, 86, 87, 88, 89, 90, 91, 92, 93, 103, 104, 105, 106, 101, 102] (by decide +kernel) (by decide +kernel)
set_option maxRecDepth 20000 in
theorem gX5_classes_X1_countOfSize : GoodIn wsX5_classes (wsV RX5 100 RX1 yX1_countOfSize wsX1_countOfSize) := goodIn_app (goodIn_of _ (by decide +kernel)) ggX5_classes_X1_countOfSize
theorem dX5_classes_0 : decode cX5_classes 0 = .ok (.aload_n 0, 1) := by decide +kernel
theorem dX5_classes_1 : decode cX5_classes 1 = .ok (.iload_n 1, 1) := by decide +kernel
theorem dX5_classes_2 : decode cX5_classes 2 = .ok (.invokevirtual 93, 3) := by decide +kernel
theorem dX5_classes_5 : decode cX5_classes 5 = .ok (.ifCond .eq 10, 3) := by decide +kernel
theorem dX5_classes_8 : decode cX5_classes 8 = .ok (.iload_n 2, 1) := by decide +kernel
theorem dX5_classes_9 : decode cX5_classes 9 = .ok (.invokestatic 79, 3) := by decide +kernel
theorem dX5_classes_12 : decode cX5_classes 12 = .ok (.ifCond .ne 6, 3) := by decide +kernel
theorem dX5_classes_15 : decode cX5_classes 15 = .ok (.bipush (-2), 2) := by decide +kernel
theorem dX5_classes_17 : decode cX5_classes 17 = .ok (.ireturn, 1) := by decide +kernel
theorem dX5_classes_18 : decode cX5_classes 18 = .ok (.aload_n 0, 1) := by decide +kernel
theorem dX5_classes_19 : decode cX5_classes 19 = .ok (.iload_n 2, 1) := by decide +kernel
theorem dX5_classes_20 : decode cX5_classes 20 = .ok (.invokevirtual 96, 3) := by decide +kernel
theorem dX5_classes_23 : decode cX5_classes 23 = .ok (.iload_n 1, 1) := by decide +kernel
theorem dX5_classes_24 : decode cX5_classes 24 = .ok (.invokevirtual 100, 3) := by decide +kernel
theorem dX5_classes_27 : decode cX5_classes 27 = .ok (.ireturn, 1) := by decide +kernel
set_option maxRecDepth 20000 in
theorem ggX5_nth_X5_isSetSize : GoodIn wsX5_nth wsX5_isSetSize := goodIn_r _ [5, 6, 7, 8, 9, 10, 11, 12, 94, 95, 96, 97, 98, 99, 100, 101, 102] (by decide +kernel) (by decide +kernel)
set_option maxRecDepth 20000 in
theorem gX5_nth_X5_isSetSize : GoodIn wsX5_nth (wsV RX5 93 RX5 yX5_isSetSize wsX5_isSetSize) := goodIn_app (goodIn_of _ (by decide +kernel)) ggX5_nth_X5_isSetSize
set_option maxRecDepth 20000 in
theorem ggX5_nth_X5_isClassKind : GoodIn wsX5_nth wsX5_isClassKind := goodIn_r _ [15] (by decide +kernel) (by decide +kernel)
set_option maxRecDepth 20000 in
theorem gX5_nth_X5_isClassKind : GoodIn wsX5_nth (va_wsS RX5 79 yX5_isClassKind wsX5_isClassKind) := goodIn_app (goodIn_of _ (by decide +kernel)) ggX5_nth_X5_isClassKind
set_option maxRecDepth 20000 in
theorem ggX5_nth_X5_listOf : GoodIn wsX5_nth wsX5_listOf := goodIn_r _ [19, 20, 21, 22, 94, 95, 96, 97, 98, 99, 100] (by decide +kernel) (by decide +kernel)
set_option maxRecDepth 20000 in
theorem gX5_nth_X5_listOf : GoodIn wsX5_nth (wsV RX5 96 RX5 yX5_listOf wsX5_listOf) := goodIn_app (goodIn_of _ (by decide +kernel)) ggX5_nth_X5_listOf
set_option maxRecDepth 20000 in
theorem ggX5_nth_X1_ofSize : GoodIn wsX5_nth wsX1_ofSize := goodIn_r _ [27, 28, 29, 30, 26, 31, 32, 33, 34, 35, 36, 37, 38, 39, 40, 41, 42, 43, 44, 45, 46, 10, 47, 48, 49, 50, 51, 52, 12, 53, 54, 55, 56, 57, 58, 59, 60, 61, 62, 63, 64, 65, 66, 67, 68, 69, 4, 70, 71, 72, 73, 74, 75, 76, 77, 78, 79, 80, 81, 82, 83, 84, 85, 86, 87, 88, 89, 90, 91, 92, 93, 103, 104, 105, 106, 101, 102] (by decide +kernel) (by decide +kernel)
set_option maxRecDepth 20000 in
theorem gX5_nth_X1_ofSize : GoodIn wsX5_nth (wsV RX5 104 RX1 yX1_ofSize wsX1_ofSize) := goodIn_app (goodIn_of _ (by decide +kernel)) ggX5_nth_X1_ofSize
theorem dX5_nth_0 : decode cX5_nth 0 = .ok (.aload_n 0, 1) := by decide +kernel
theorem dX5_nth_1 : decode cX5_nth 1 = .ok (.iload_n 1, 1) := by decide +kernel
theorem dX5_nth_2 : decode cX5_nth 2 = .ok (.invokevirtual 93, 3) := by decide +kernel
theorem dX5_nth_5 : decode cX5_nth 5 = .ok (.ifCond .eq 10, 3) := by decide +kernel
theorem dX5_nth_8 : decode cX5_nth 8 = .ok (.iload_n 2, 1) := by decide +kernel
theorem dX5_nth_9 : decode cX5_nth 9 = .ok (.invokestatic 79, 3) := by decide +kernel
theorem dX5_nth_12 : decode cX5_nth 12 = .ok (.ifCond .ne 6, 3) := by decide +kernel
theorem dX5_nth_15 : decode cX5_nth 15 = .ok (.bipush (-2), 2) := by decide +kernel
theorem dX5_nth_17 : decode cX5_nth 17 = .ok (.ireturn, 1) := by decide +kernel
theorem dX5_nth_18 : decode cX5_nth 18 = .ok (.aload_n 0, 1) := by decide +kernel
theorem dX5_nth_19 : decode cX5_nth 19 = .ok (.iload_n 2, 1) := by decide +kernel
theorem dX5_nth_20 : decode cX5_nth 20 = .ok (.invokevirtual 96, 3) := by decide +kernel
theorem dX5_nth_23 : decode cX5_nth 23 = .ok (.iload_n 1, 1) := by decide +kernel
theorem dX5_nth_24 : decode cX5_nth 24 = .ok (.iload_n 3, 1) := by decide +kernel
theorem dX5_nth_25 : decode cX5_nth 25 = .ok (.invokevirtual 104, 3) := by decide +kernel
theorem dX5_nth_28 : decode cX5_nth 28 = .ok (.ireturn, 1) := by decide +kernel
set_option maxRecDepth 20000 in
theorem ggX5_normal_X5_orderRefusal : GoodIn wsX5_normal wsX5_orderRefusal := goodIn_r _ [7, 2, 8, 9, 10, 11, 12, 13, 14, 15, 16, 17, 18, 19, 20, 58, 59, 60, 61, 62, 63, 64, 65, 66] (by decide +kernel) (by decide +kernel)
set_option maxRecDepth 20000 in
theorem gX5_normal_X5_orderRefusal : GoodIn wsX5_normal (wsV RX5 107 RX5 yX5_orderRefusal wsX5_orderRefusal) := goodIn_app (goodIn_of _ (by decide +kernel)) ggX5_normal_X5_orderRefusal
set_option maxRecDepth 20000 in
theorem ggX5_normal_X2_normalStart : GoodIn wsX5_normal wsX2_normalStart := goodIn_r _ [25, 26, 27, 28, 29, 11, 30, 31, 32, 33, 34, 35, 36, 37, 38, 24, 39, 40, 41, 42, 43, 13, 44, 45, 46, 47, 48, 15, 16, 17, 18, 19, 20, 49, 50, 51, 67, 65, 66] (by decide +kernel) (by decide +kernel)
set_option maxRecDepth 20000 in
theorem gX5_normal_X2_normalStart : GoodIn wsX5_normal (wsV RX5 110 RX2 yX2_normalStart wsX2_normalStart) := goodIn_app (goodIn_of _ (by decide +kernel)) ggX5_normal_X2_normalStart
set_option maxRecDepth 20000 in
theorem ggX5_normal_X2_distances : GoodIn wsX5_normal wsX2_distances := goodIn_r _ [39, 26, 32, 33, 34, 11, 35, 31, 40, 41, 42, 43, 13, 67, 65, 66] (by decide +kernel) (by decide +kernel)
set_option maxRecDepth 20000 in
theorem gX5_normal_X2_distances : GoodIn wsX5_normal (wsV RX5 113 RX2 yX2_distances wsX2_distances) := goodIn_app (goodIn_of _ (by decide +kernel)) ggX5_normal_X2_distances
set_option maxRecDepth 20000 in
theorem ggX5_normal_X0_stepAt : GoodIn wsX5_normal wsX0_stepAt := goodIn_r _ [30, 31, 65, 66] (by decide +kernel) (by decide +kernel)
set_option maxRecDepth 20000 in
theorem gX5_normal_X0_stepAt : GoodIn wsX5_normal (wsV RX5 116 RX0 yX0_stepAt wsX0_stepAt) := goodIn_app (goodIn_of _ (by decide +kernel)) ggX5_normal_X0_stepAt
set_option maxRecDepth 20000 in
theorem ggX5_normal_X0_wrapped : GoodIn wsX5_normal wsX0_wrapped := goodIn_r _ [57, 31, 65, 66] (by decide +kernel) (by decide +kernel)
set_option maxRecDepth 20000 in
theorem gX5_normal_X0_wrapped : GoodIn wsX5_normal (wsV RX5 119 RX0 yX0_wrapped wsX0_wrapped) := goodIn_app (goodIn_of _ (by decide +kernel)) ggX5_normal_X0_wrapped
theorem dX5_normal_0 : decode cX5_normal 0 = .ok (.aload_n 0, 1) := by decide +kernel
theorem dX5_normal_1 : decode cX5_normal 1 = .ok (.iload_n 1, 1) := by decide +kernel
theorem dX5_normal_2 : decode cX5_normal 2 = .ok (.iload_n 2, 1) := by decide +kernel
theorem dX5_normal_3 : decode cX5_normal 3 = .ok (.iload_n 3, 1) := by decide +kernel
theorem dX5_normal_4 : decode cX5_normal 4 = .ok (.invokevirtual 107, 3) := by decide +kernel
theorem dX5_normal_7 : decode cX5_normal 7 = .ok (.istore 4, 2) := by decide +kernel
theorem dX5_normal_9 : decode cX5_normal 9 = .ok (.iload 4, 2) := by decide +kernel
theorem dX5_normal_11 : decode cX5_normal 11 = .ok (.ifCond .ge 6, 3) := by decide +kernel
theorem dX5_normal_14 : decode cX5_normal 14 = .ok (.iload 4, 2) := by decide +kernel
theorem dX5_normal_16 : decode cX5_normal 16 = .ok (.ireturn, 1) := by decide +kernel
theorem dX5_normal_17 : decode cX5_normal 17 = .ok (.aload_n 0, 1) := by decide +kernel
theorem dX5_normal_18 : decode cX5_normal 18 = .ok (.getfield 21, 3) := by decide +kernel
theorem dX5_normal_21 : decode cX5_normal 21 = .ok (.iload_n 1, 1) := by decide +kernel
theorem dX5_normal_22 : decode cX5_normal 22 = .ok (.iload_n 2, 1) := by decide +kernel
theorem dX5_normal_23 : decode cX5_normal 23 = .ok (.invokevirtual 110, 3) := by decide +kernel
theorem dX5_normal_26 : decode cX5_normal 26 = .ok (.istore 5, 2) := by decide +kernel
theorem dX5_normal_28 : decode cX5_normal 28 = .ok (.aload_n 0, 1) := by decide +kernel
theorem dX5_normal_29 : decode cX5_normal 29 = .ok (.getfield 10, 3) := by decide +kernel
theorem dX5_normal_32 : decode cX5_normal 32 = .ok (.iload 5, 2) := by decide +kernel
theorem dX5_normal_34 : decode cX5_normal 34 = .ok (.aload_n 0, 1) := by decide +kernel
theorem dX5_normal_35 : decode cX5_normal 35 = .ok (.getfield 10, 3) := by decide +kernel
theorem dX5_normal_38 : decode cX5_normal 38 = .ok (.aload_n 0, 1) := by decide +kernel
theorem dX5_normal_39 : decode cX5_normal 39 = .ok (.getfield 21, 3) := by decide +kernel
theorem dX5_normal_42 : decode cX5_normal 42 = .ok (.iload_n 1, 1) := by decide +kernel
theorem dX5_normal_43 : decode cX5_normal 43 = .ok (.iload 5, 2) := by decide +kernel
theorem dX5_normal_45 : decode cX5_normal 45 = .ok (.invokevirtual 113, 3) := by decide +kernel
theorem dX5_normal_48 : decode cX5_normal 48 = .ok (.iload_n 3, 1) := by decide +kernel
theorem dX5_normal_49 : decode cX5_normal 49 = .ok (.invokevirtual 116, 3) := by decide +kernel
theorem dX5_normal_52 : decode cX5_normal 52 = .ok (.iadd, 1) := by decide +kernel
theorem dX5_normal_53 : decode cX5_normal 53 = .ok (.invokevirtual 119, 3) := by decide +kernel
theorem dX5_normal_56 : decode cX5_normal 56 = .ok (.ireturn, 1) := by decide +kernel
set_option maxRecDepth 20000 in
theorem ggX5_prime_X5_orderRefusal : GoodIn wsX5_prime wsX5_orderRefusal := goodIn_r _ [7, 1, 8, 9, 10, 11, 12, 13, 14, 15, 16, 17, 18, 19, 20, 69, 70, 71, 72, 73, 74, 75, 76, 77] (by decide +kernel) (by decide +kernel)
set_option maxRecDepth 20000 in
theorem gX5_prime_X5_orderRefusal : GoodIn wsX5_prime (wsV RX5 107 RX5 yX5_orderRefusal wsX5_orderRefusal) := goodIn_app (goodIn_of _ (by decide +kernel)) ggX5_prime_X5_orderRefusal
set_option maxRecDepth 20000 in
theorem ggX5_prime_X2_primeDistances : GoodIn wsX5_prime wsX2_primeDistances := goodIn_r _ [25, 26, 27, 28, 29, 11, 30, 31, 32, 33, 34, 35, 36, 37, 38, 39, 40, 41, 42, 24, 43, 44, 45, 46, 47, 48, 49, 50, 51, 52, 53, 54, 55, 56, 57, 58, 59, 13, 60, 61, 62, 63, 64, 15, 16, 17, 18, 19, 20, 65, 66, 67, 78, 76, 77] (by decide +kernel) (by decide +kernel)
set_option maxRecDepth 20000 in
theorem gX5_prime_X2_primeDistances : GoodIn wsX5_prime (wsV RX5 122 RX2 yX2_primeDistances wsX2_primeDistances) := goodIn_app (goodIn_of _ (by decide +kernel)) ggX5_prime_X2_primeDistances
set_option maxRecDepth 20000 in
theorem ggX5_prime_X0_stepAt : GoodIn wsX5_prime wsX0_stepAt := goodIn_r _ [47, 31, 76, 77] (by decide +kernel) (by decide +kernel)
set_option maxRecDepth 20000 in
theorem gX5_prime_X0_stepAt : GoodIn wsX5_prime (wsV RX5 116 RX0 yX0_stepAt wsX0_stepAt) := goodIn_app (goodIn_of _ (by decide +kernel)) ggX5_prime_X0_stepAt
theorem dX5_prime_0 : decode cX5_prime 0 = .ok (.aload_n 0, 1) := by decide +kernel
theorem dX5_prime_1 : decode cX5_prime 1 = .ok (.iload_n 1, 1) := by decide +kernel
theorem dX5_prime_2 : decode cX5_prime 2 = .ok (.iload_n 2, 1) := by decide +kernel
theorem dX5_prime_3 : decode cX5_prime 3 = .ok (.iload_n 3, 1) := by decide +kernel
theorem dX5_prime_4 : decode cX5_prime 4 = .ok (.invokevirtual 107, 3) := by decide +kernel
theorem dX5_prime_7 : decode cX5_prime 7 = .ok (.istore 4, 2) := by decide +kernel
theorem dX5_prime_9 : decode cX5_prime 9 = .ok (.iload 4, 2) := by decide +kernel
theorem dX5_prime_11 : decode cX5_prime 11 = .ok (.ifCond .ge 6, 3) := by decide +kernel
theorem dX5_prime_14 : decode cX5_prime 14 = .ok (.iload 4, 2) := by decide +kernel
theorem dX5_prime_16 : decode cX5_prime 16 = .ok (.ireturn, 1) := by decide +kernel
theorem dX5_prime_17 : decode cX5_prime 17 = .ok (.aload_n 0, 1) := by decide +kernel
theorem dX5_prime_18 : decode cX5_prime 18 = .ok (.getfield 10, 3) := by decide +kernel
theorem dX5_prime_21 : decode cX5_prime 21 = .ok (.aload_n 0, 1) := by decide +kernel
theorem dX5_prime_22 : decode cX5_prime 22 = .ok (.getfield 21, 3) := by decide +kernel
theorem dX5_prime_25 : decode cX5_prime 25 = .ok (.iload_n 1, 1) := by decide +kernel
theorem dX5_prime_26 : decode cX5_prime 26 = .ok (.iload_n 2, 1) := by decide +kernel
theorem dX5_prime_27 : decode cX5_prime 27 = .ok (.invokevirtual 122, 3) := by decide +kernel
theorem dX5_prime_30 : decode cX5_prime 30 = .ok (.iload_n 3, 1) := by decide +kernel
theorem dX5_prime_31 : decode cX5_prime 31 = .ok (.invokevirtual 116, 3) := by decide +kernel
theorem dX5_prime_34 : decode cX5_prime 34 = .ok (.ireturn, 1) := by decide +kernel
set_option maxRecDepth 20000 in
theorem ggX5_differ_X5_isSetSize : GoodIn wsX5_differ wsX5_isSetSize := goodIn_r _ [7, 8, 9, 10, 11, 12, 13, 14, 118, 119, 120, 121, 122, 123, 124, 125, 126] (by decide +kernel) (by decide +kernel)
set_option maxRecDepth 20000 in
theorem gX5_differ_X5_isSetSize : GoodIn wsX5_differ (wsV RX5 93 RX5 yX5_isSetSize wsX5_isSetSize) := goodIn_app (goodIn_of _ (by decide +kernel)) ggX5_differ_X5_isSetSize
set_option maxRecDepth 20000 in
theorem ggX5_differ_X1_count : GoodIn wsX5_differ wsX1_count := goodIn_r _ [19, 20, 21, 22, 23, 18, 24, 25, 26, 27, 28, 29, 30, 31, 32, 33, 34, 12, 35, 36, 37, 38, 39, 40, 14, 41, 42, 43, 44, 45, 46, 47, 48, 49, 50, 51, 52, 53, 54, 55, 56, 57, 6, 58, 59, 60, 61, 62, 63, 64, 65, 66, 67, 68, 69, 70, 127, 128, 129, 130, 125, 126] (by decide +kernel) (by decide +kernel)
set_option maxRecDepth 20000 in
theorem gX5_differ_X1_count : GoodIn wsX5_differ (wsV RX5 125 RX1 yX1_count wsX1_count) := goodIn_app (goodIn_of _ (by decide +kernel)) ggX5_differ_X1_count
set_option maxRecDepth 20000 in
theorem ggX5_differ_X1_at : GoodIn wsX5_differ wsX1_at := goodIn_r _ [74, 20, 31, 127, 128, 129, 130] (by decide +kernel) (by decide +kernel)
set_option maxRecDepth 20000 in
theorem gX5_differ_X1_at : GoodIn wsX5_differ (wsV RX5 126 RX1 yX1_at wsX1_at) := goodIn_app (goodIn_of _ (by decide +kernel)) ggX5_differ_X1_at
set_option maxRecDepth 20000 in
theorem ggX5_differ_J6_bitCount_0f7a4 : GoodIn wsX5_differ wsJ6_bitCount_0f7a4 := goodIn_r _ [78, 79, 80, 81] (by decide +kernel) (by decide +kernel)
set_option maxRecDepth 20000 in
theorem gX5_differ_J6_bitCount_0f7a4 : GoodIn wsX5_differ (va_wsS RX5 129 yJ6_bitCount_0f7a4 wsJ6_bitCount_0f7a4) := goodIn_app (goodIn_of _ (by decide +kernel)) ggX5_differ_J6_bitCount_0f7a4
set_option maxRecDepth 20000 in
theorem ggX5_differ_X2_primesDiffer : GoodIn wsX5_differ wsX2_primesDiffer := goodIn_r _ [86, 87, 88, 89, 85, 90, 91, 92, 93, 94, 12, 95, 14, 63, 64, 65, 66, 59, 60, 61, 62, 96, 97, 98, 99, 100, 101, 102, 103, 104, 10, 11, 13, 105, 106, 107, 108, 109, 42, 43, 44, 36, 110, 111, 112, 113, 114, 76, 77, 78, 79, 80, 81, 115, 116, 117, 131, 125, 126] (by decide +kernel) (by decide +kernel)
set_option maxRecDepth 20000 in
theorem gX5_differ_X2_primesDiffer : GoodIn wsX5_differ (wsV RX5 134 RX2 yX2_primesDiffer wsX2_primesDiffer) := goodIn_app (goodIn_of _ (by decide +kernel)) ggX5_differ_X2_primesDiffer
theorem dX5_differ_0 : decode cX5_differ 0 = .ok (.aload_n 0, 1) := by decide +kernel
theorem dX5_differ_1 : decode cX5_differ 1 = .ok (.iload_n 1, 1) := by decide +kernel
theorem dX5_differ_2 : decode cX5_differ 2 = .ok (.invokevirtual 93, 3) := by decide +kernel
theorem dX5_differ_5 : decode cX5_differ 5 = .ok (.ifCond .ne 6, 3) := by decide +kernel
theorem dX5_differ_8 : decode cX5_differ 8 = .ok (.bipush (-2), 2) := by decide +kernel
theorem dX5_differ_10 : decode cX5_differ 10 = .ok (.ireturn, 1) := by decide +kernel
theorem dX5_differ_11 : decode cX5_differ 11 = .ok (.iconst 0, 1) := by decide +kernel
theorem dX5_differ_12 : decode cX5_differ 12 = .ok (.istore_n 2, 1) := by decide +kernel
theorem dX5_differ_13 : decode cX5_differ 13 = .ok (.aload_n 0, 1) := by decide +kernel
theorem dX5_differ_14 : decode cX5_differ 14 = .ok (.getfield 34, 3) := by decide +kernel
theorem dX5_differ_17 : decode cX5_differ 17 = .ok (.invokevirtual 125, 3) := by decide +kernel
theorem dX5_differ_20 : decode cX5_differ 20 = .ok (.istore_n 3, 1) := by decide +kernel
theorem dX5_differ_21 : decode cX5_differ 21 = .ok (.iconst 0, 1) := by decide +kernel
theorem dX5_differ_22 : decode cX5_differ 22 = .ok (.istore 4, 2) := by decide +kernel
theorem dX5_differ_24 : decode cX5_differ 24 = .ok (.iload 4, 2) := by decide +kernel
theorem dX5_differ_26 : decode cX5_differ 26 = .ok (.iload_n 3, 1) := by decide +kernel
theorem dX5_differ_27 : decode cX5_differ 27 = .ok (.if_icmp .ge 44, 3) := by decide +kernel
theorem dX5_differ_30 : decode cX5_differ 30 = .ok (.aload_n 0, 1) := by decide +kernel
theorem dX5_differ_31 : decode cX5_differ 31 = .ok (.getfield 34, 3) := by decide +kernel
theorem dX5_differ_34 : decode cX5_differ 34 = .ok (.iload 4, 2) := by decide +kernel
theorem dX5_differ_36 : decode cX5_differ 36 = .ok (.invokevirtual 126, 3) := by decide +kernel
theorem dX5_differ_39 : decode cX5_differ 39 = .ok (.istore 5, 2) := by decide +kernel
theorem dX5_differ_41 : decode cX5_differ 41 = .ok (.iload 5, 2) := by decide +kernel
theorem dX5_differ_43 : decode cX5_differ 43 = .ok (.invokestatic 129, 3) := by decide +kernel
theorem dX5_differ_46 : decode cX5_differ 46 = .ok (.iload_n 1, 1) := by decide +kernel
theorem dX5_differ_47 : decode cX5_differ 47 = .ok (.if_icmp .ne 18, 3) := by decide +kernel
theorem dX5_differ_50 : decode cX5_differ 50 = .ok (.aload_n 0, 1) := by decide +kernel
theorem dX5_differ_51 : decode cX5_differ 51 = .ok (.getfield 21, 3) := by decide +kernel
theorem dX5_differ_54 : decode cX5_differ 54 = .ok (.iload 5, 2) := by decide +kernel
theorem dX5_differ_56 : decode cX5_differ 56 = .ok (.invokevirtual 134, 3) := by decide +kernel
theorem dX5_differ_59 : decode cX5_differ 59 = .ok (.ifCond .eq 6, 3) := by decide +kernel
theorem dX5_differ_62 : decode cX5_differ 62 = .ok (.iinc 2 1, 3) := by decide +kernel
theorem dX5_differ_65 : decode cX5_differ 65 = .ok (.iinc 4 1, 3) := by decide +kernel
theorem dX5_differ_68 : decode cX5_differ 68 = .ok (.goto (-44), 3) := by decide +kernel
theorem dX5_differ_71 : decode cX5_differ 71 = .ok (.iload_n 2, 1) := by decide +kernel
theorem dX5_differ_72 : decode cX5_differ 72 = .ok (.ireturn, 1) := by decide +kernel
set_option maxRecDepth 20000 in
theorem ggX5_vector_X0_hasSet : GoodIn wsX5_vector wsX0_hasSet := goodIn_r _ [6, 7, 35, 36] (by decide +kernel) (by decide +kernel)
set_option maxRecDepth 20000 in
theorem gX5_vector_X0_hasSet : GoodIn wsX5_vector (wsV RX5 75 RX0 yX0_hasSet wsX0_hasSet) := goodIn_app (goodIn_of _ (by decide +kernel)) ggX5_vector_X0_hasSet
set_option maxRecDepth 20000 in
theorem ggX5_vector_X0_count : GoodIn wsX5_vector wsX0_count := goodIn_r _ [11, 12, 35, 36] (by decide +kernel) (by decide +kernel)
set_option maxRecDepth 20000 in
theorem gX5_vector_X0_count : GoodIn wsX5_vector (wsV RX5 61 RX0 yX0_count wsX0_count) := goodIn_app (goodIn_of _ (by decide +kernel)) ggX5_vector_X0_count
set_option maxRecDepth 20000 in
theorem ggX5_vector_X0_pairsApart : GoodIn wsX5_vector wsX0_pairsApart := goodIn_r _ [16, 17, 18, 19, 5, 20, 12, 7, 21, 22, 23, 24, 25, 26, 27, 35, 36] (by decide +kernel) (by decide +kernel)
set_option maxRecDepth 20000 in
theorem gX5_vector_X0_pairsApart : GoodIn wsX5_vector (wsV RX5 137 RX0 yX0_pairsApart wsX0_pairsApart) := goodIn_app (goodIn_of _ (by decide +kernel)) ggX5_vector_X0_pairsApart
theorem dX5_vector_0 : decode cX5_vector 0 = .ok (.aload_n 0, 1) := by decide +kernel
theorem dX5_vector_1 : decode cX5_vector 1 = .ok (.getfield 10, 3) := by decide +kernel
theorem dX5_vector_4 : decode cX5_vector 4 = .ok (.iload_n 1, 1) := by decide +kernel
theorem dX5_vector_5 : decode cX5_vector 5 = .ok (.invokevirtual 75, 3) := by decide +kernel
theorem dX5_vector_8 : decode cX5_vector 8 = .ok (.ifCond .eq 21, 3) := by decide +kernel
theorem dX5_vector_11 : decode cX5_vector 11 = .ok (.iload_n 2, 1) := by decide +kernel
theorem dX5_vector_12 : decode cX5_vector 12 = .ok (.iconst 1, 1) := by decide +kernel
theorem dX5_vector_13 : decode cX5_vector 13 = .ok (.if_icmp .lt 16, 3) := by decide +kernel
theorem dX5_vector_16 : decode cX5_vector 16 = .ok (.iload_n 2, 1) := by decide +kernel
theorem dX5_vector_17 : decode cX5_vector 17 = .ok (.aload_n 0, 1) := by decide +kernel
theorem dX5_vector_18 : decode cX5_vector 18 = .ok (.getfield 10, 3) := by decide +kernel
theorem dX5_vector_21 : decode cX5_vector 21 = .ok (.invokevirtual 61, 3) := by decide +kernel
theorem dX5_vector_24 : decode cX5_vector 24 = .ok (.iconst 2, 1) := by decide +kernel
theorem dX5_vector_25 : decode cX5_vector 25 = .ok (.idiv, 1) := by decide +kernel
theorem dX5_vector_26 : decode cX5_vector 26 = .ok (.if_icmp .le 6, 3) := by decide +kernel
theorem dX5_vector_29 : decode cX5_vector 29 = .ok (.bipush (-2), 2) := by decide +kernel
theorem dX5_vector_31 : decode cX5_vector 31 = .ok (.ireturn, 1) := by decide +kernel
theorem dX5_vector_32 : decode cX5_vector 32 = .ok (.aload_n 0, 1) := by decide +kernel
theorem dX5_vector_33 : decode cX5_vector 33 = .ok (.getfield 10, 3) := by decide +kernel
theorem dX5_vector_36 : decode cX5_vector 36 = .ok (.iload_n 1, 1) := by decide +kernel
theorem dX5_vector_37 : decode cX5_vector 37 = .ok (.iload_n 2, 1) := by decide +kernel
theorem dX5_vector_38 : decode cX5_vector 38 = .ok (.invokevirtual 137, 3) := by decide +kernel
theorem dX5_vector_41 : decode cX5_vector 41 = .ok (.istore_n 3, 1) := by decide +kernel
theorem dX5_vector_42 : decode cX5_vector 42 = .ok (.iload_n 2, 1) := by decide +kernel
theorem dX5_vector_43 : decode cX5_vector 43 = .ok (.iconst 2, 1) := by decide +kernel
theorem dX5_vector_44 : decode cX5_vector 44 = .ok (.imul, 1) := by decide +kernel
theorem dX5_vector_45 : decode cX5_vector 45 = .ok (.aload_n 0, 1) := by decide +kernel
theorem dX5_vector_46 : decode cX5_vector 46 = .ok (.getfield 10, 3) := by decide +kernel
theorem dX5_vector_49 : decode cX5_vector 49 = .ok (.invokevirtual 61, 3) := by decide +kernel
theorem dX5_vector_52 : decode cX5_vector 52 = .ok (.if_icmp .ne 9, 3) := by decide +kernel
theorem dX5_vector_55 : decode cX5_vector 55 = .ok (.iload_n 3, 1) := by decide +kernel
theorem dX5_vector_56 : decode cX5_vector 56 = .ok (.iconst 2, 1) := by decide +kernel
theorem dX5_vector_57 : decode cX5_vector 57 = .ok (.idiv, 1) := by decide +kernel
theorem dX5_vector_58 : decode cX5_vector 58 = .ok (.goto 4, 3) := by decide +kernel
theorem dX5_vector_61 : decode cX5_vector 61 = .ok (.iload_n 3, 1) := by decide +kernel
theorem dX5_vector_62 : decode cX5_vector 62 = .ok (.ireturn, 1) := by decide +kernel
set_option maxRecDepth 20000 in
theorem ggX5_twin_X0_hasSet : GoodIn wsX5_twin wsX0_hasSet := goodIn_r _ [7, 8, 98, 99] (by decide +kernel) (by decide +kernel)
set_option maxRecDepth 20000 in
theorem gX5_twin_X0_hasSet : GoodIn wsX5_twin (wsV RX5 75 RX0 yX0_hasSet wsX0_hasSet) := goodIn_app (goodIn_of _ (by decide +kernel)) ggX5_twin_X0_hasSet
set_option maxRecDepth 20000 in
theorem ggX5_twin_X0_leastOf : GoodIn wsX5_twin wsX0_leastOf := goodIn_r _ [12, 13, 14, 15, 16, 17, 18, 19, 20, 6, 21, 22, 23, 24, 25, 26, 27, 28, 29, 30, 31, 32, 33, 34, 35, 36, 37, 38, 39, 40, 8, 98, 99] (by decide +kernel) (by decide +kernel)
set_option maxRecDepth 20000 in
theorem gX5_twin_X0_leastOf : GoodIn wsX5_twin (wsV RX5 82 RX0 yX0_leastOf wsX0_leastOf) := goodIn_app (goodIn_of _ (by decide +kernel)) ggX5_twin_X0_leastOf
set_option maxRecDepth 20000 in
theorem ggX5_twin_X1_count : GoodIn wsX5_twin wsX1_count := goodIn_r _ [45, 46, 47, 48, 49, 44, 50, 51, 52, 53, 54, 55, 56, 57, 58, 59, 60, 6, 61, 8, 62, 63, 64, 65, 13, 37, 38, 39, 40, 66, 10, 11, 12, 14, 15, 16, 17, 18, 19, 20, 21, 22, 23, 24, 25, 26, 27, 28, 29, 30, 31, 32, 33, 34, 35, 36, 100, 101, 102, 103, 98, 99] (by decide +kernel) (by decide +kernel)
set_option maxRecDepth 20000 in
theorem gX5_twin_X1_count : GoodIn wsX5_twin (wsV RX5 125 RX1 yX1_count wsX1_count) := goodIn_app (goodIn_of _ (by decide +kernel)) ggX5_twin_X1_count
set_option maxRecDepth 20000 in
theorem ggX5_twin_X1_at : GoodIn wsX5_twin wsX1_at := goodIn_r _ [70, 46, 57, 100, 101, 102, 103] (by decide +kernel) (by decide +kernel)
set_option maxRecDepth 20000 in
theorem gX5_twin_X1_at : GoodIn wsX5_twin (wsV RX5 126 RX1 yX1_at wsX1_at) := goodIn_app (goodIn_of _ (by decide +kernel)) ggX5_twin_X1_at
set_option maxRecDepth 20000 in
theorem ggX5_twin_X5_sameVector : GoodIn wsX5_twin wsX5_sameVector := goodIn_r _ [74, 1, 75, 76, 77, 78, 79, 80, 81, 82, 83, 84, 6, 85, 13, 86, 87, 88, 89, 37, 38, 39, 40, 8, 90, 91, 92, 93, 94, 95, 96, 97, 98, 99] (by decide +kernel) (by decide +kernel)
set_option maxRecDepth 20000 in
theorem gX5_twin_X5_sameVector : GoodIn wsX5_twin (wsV RX5 140 RX5 yX5_sameVector wsX5_sameVector) := goodIn_app (goodIn_of _ (by decide +kernel)) ggX5_twin_X5_sameVector
theorem dX5_twin_0 : decode cX5_twin 0 = .ok (.aload_n 0, 1) := by decide +kernel
theorem dX5_twin_1 : decode cX5_twin 1 = .ok (.getfield 10, 3) := by decide +kernel
theorem dX5_twin_4 : decode cX5_twin 4 = .ok (.iload_n 1, 1) := by decide +kernel
theorem dX5_twin_5 : decode cX5_twin 5 = .ok (.invokevirtual 75, 3) := by decide +kernel
theorem dX5_twin_8 : decode cX5_twin 8 = .ok (.ifCond .ne 6, 3) := by decide +kernel
theorem dX5_twin_11 : decode cX5_twin 11 = .ok (.bipush (-2), 2) := by decide +kernel
theorem dX5_twin_13 : decode cX5_twin 13 = .ok (.ireturn, 1) := by decide +kernel
theorem dX5_twin_14 : decode cX5_twin 14 = .ok (.aload_n 0, 1) := by decide +kernel
theorem dX5_twin_15 : decode cX5_twin 15 = .ok (.getfield 10, 3) := by decide +kernel
theorem dX5_twin_18 : decode cX5_twin 18 = .ok (.iload_n 1, 1) := by decide +kernel
theorem dX5_twin_19 : decode cX5_twin 19 = .ok (.iconst 1, 1) := by decide +kernel
theorem dX5_twin_20 : decode cX5_twin 20 = .ok (.invokevirtual 82, 3) := by decide +kernel
theorem dX5_twin_23 : decode cX5_twin 23 = .ok (.istore_n 2, 1) := by decide +kernel
theorem dX5_twin_24 : decode cX5_twin 24 = .ok (.aload_n 0, 1) := by decide +kernel
theorem dX5_twin_25 : decode cX5_twin 25 = .ok (.getfield 34, 3) := by decide +kernel
theorem dX5_twin_28 : decode cX5_twin 28 = .ok (.invokevirtual 125, 3) := by decide +kernel
theorem dX5_twin_31 : decode cX5_twin 31 = .ok (.istore_n 3, 1) := by decide +kernel
theorem dX5_twin_32 : decode cX5_twin 32 = .ok (.iconst 0, 1) := by decide +kernel
theorem dX5_twin_33 : decode cX5_twin 33 = .ok (.istore 4, 2) := by decide +kernel
theorem dX5_twin_35 : decode cX5_twin 35 = .ok (.iload 4, 2) := by decide +kernel
theorem dX5_twin_37 : decode cX5_twin 37 = .ok (.iload_n 3, 1) := by decide +kernel
theorem dX5_twin_38 : decode cX5_twin 38 = .ok (.if_icmp .ge 39, 3) := by decide +kernel
theorem dX5_twin_41 : decode cX5_twin 41 = .ok (.aload_n 0, 1) := by decide +kernel
theorem dX5_twin_42 : decode cX5_twin 42 = .ok (.getfield 34, 3) := by decide +kernel
theorem dX5_twin_45 : decode cX5_twin 45 = .ok (.iload 4, 2) := by decide +kernel
theorem dX5_twin_47 : decode cX5_twin 47 = .ok (.invokevirtual 126, 3) := by decide +kernel
theorem dX5_twin_50 : decode cX5_twin 50 = .ok (.istore 5, 2) := by decide +kernel
theorem dX5_twin_52 : decode cX5_twin 52 = .ok (.iload 5, 2) := by decide +kernel
theorem dX5_twin_54 : decode cX5_twin 54 = .ok (.iload_n 2, 1) := by decide +kernel
theorem dX5_twin_55 : decode cX5_twin 55 = .ok (.if_icmp .eq 16, 3) := by decide +kernel
theorem dX5_twin_58 : decode cX5_twin 58 = .ok (.aload_n 0, 1) := by decide +kernel
theorem dX5_twin_59 : decode cX5_twin 59 = .ok (.iload_n 1, 1) := by decide +kernel
theorem dX5_twin_60 : decode cX5_twin 60 = .ok (.iload 5, 2) := by decide +kernel
theorem dX5_twin_62 : decode cX5_twin 62 = .ok (.invokevirtual 140, 3) := by decide +kernel
theorem dX5_twin_65 : decode cX5_twin 65 = .ok (.ifCond .eq 6, 3) := by decide +kernel
theorem dX5_twin_68 : decode cX5_twin 68 = .ok (.iload 5, 2) := by decide +kernel
theorem dX5_twin_70 : decode cX5_twin 70 = .ok (.ireturn, 1) := by decide +kernel
theorem dX5_twin_71 : decode cX5_twin 71 = .ok (.iinc 4 1, 3) := by decide +kernel
theorem dX5_twin_74 : decode cX5_twin 74 = .ok (.goto (-39), 3) := by decide +kernel
theorem dX5_twin_77 : decode cX5_twin 77 = .ok (.bipush (-3), 2) := by decide +kernel
theorem dX5_twin_79 : decode cX5_twin 79 = .ok (.ireturn, 1) := by decide +kernel
set_option maxRecDepth 20000 in
theorem ggX5_others_X0_hasSet : GoodIn wsX5_others wsX0_hasSet := goodIn_r _ [6, 7, 19, 20] (by decide +kernel) (by decide +kernel)
set_option maxRecDepth 20000 in
theorem gX5_others_X0_hasSet : GoodIn wsX5_others (wsV RX5 75 RX0 yX0_hasSet wsX0_hasSet) := goodIn_app (goodIn_of _ (by decide +kernel)) ggX5_others_X0_hasSet
set_option maxRecDepth 20000 in
theorem ggX5_others_X0_all : GoodIn wsX5_others wsX0_all := goodIn_r _ [11, 7, 19, 20] (by decide +kernel) (by decide +kernel)
set_option maxRecDepth 20000 in
theorem gX5_others_X0_all : GoodIn wsX5_others (wsV RX5 86 RX0 yX0_all wsX0_all) := goodIn_app (goodIn_of _ (by decide +kernel)) ggX5_others_X0_all
theorem dX5_others_0 : decode cX5_others 0 = .ok (.aload_n 0, 1) := by decide +kernel
theorem dX5_others_1 : decode cX5_others 1 = .ok (.getfield 10, 3) := by decide +kernel
theorem dX5_others_4 : decode cX5_others 4 = .ok (.iload_n 1, 1) := by decide +kernel
theorem dX5_others_5 : decode cX5_others 5 = .ok (.invokevirtual 75, 3) := by decide +kernel
theorem dX5_others_8 : decode cX5_others 8 = .ok (.ifCond .ne 6, 3) := by decide +kernel
theorem dX5_others_11 : decode cX5_others 11 = .ok (.bipush (-2), 2) := by decide +kernel
theorem dX5_others_13 : decode cX5_others 13 = .ok (.ireturn, 1) := by decide +kernel
theorem dX5_others_14 : decode cX5_others 14 = .ok (.aload_n 0, 1) := by decide +kernel
theorem dX5_others_15 : decode cX5_others 15 = .ok (.getfield 10, 3) := by decide +kernel
theorem dX5_others_18 : decode cX5_others 18 = .ok (.invokevirtual 86, 3) := by decide +kernel
theorem dX5_others_21 : decode cX5_others 21 = .ok (.iload_n 1, 1) := by decide +kernel
theorem dX5_others_22 : decode cX5_others 22 = .ok (.iconst (-1), 1) := by decide +kernel
theorem dX5_others_23 : decode cX5_others 23 = .ok (.ixor, 1) := by decide +kernel
theorem dX5_others_24 : decode cX5_others 24 = .ok (.iand, 1) := by decide +kernel
theorem dX5_others_25 : decode cX5_others 25 = .ok (.ireturn, 1) := by decide +kernel
set_option maxRecDepth 20000 in
theorem ggX5_multiplied_X0_hasSet : GoodIn wsX5_multiplied wsX0_hasSet := goodIn_r _ [6, 7, 28, 29] (by decide +kernel) (by decide +kernel)
set_option maxRecDepth 20000 in
theorem gX5_multiplied_X0_hasSet : GoodIn wsX5_multiplied (wsV RX5 75 RX0 yX0_hasSet wsX0_hasSet) := goodIn_app (goodIn_of _ (by decide +kernel)) ggX5_multiplied_X0_hasSet
set_option maxRecDepth 20000 in
theorem ggX5_multiplied_X0_hasStep : GoodIn wsX5_multiplied wsX0_hasStep := goodIn_r _ [11, 12, 28, 29] (by decide +kernel) (by decide +kernel)
set_option maxRecDepth 20000 in
theorem gX5_multiplied_X0_hasStep : GoodIn wsX5_multiplied (wsV RX5 144 RX0 yX0_hasStep wsX0_hasStep) := goodIn_app (goodIn_of _ (by decide +kernel)) ggX5_multiplied_X0_hasStep
set_option maxRecDepth 20000 in
theorem ggX5_multiplied_X0_timesEach : GoodIn wsX5_multiplied wsX0_timesEach := goodIn_r _ [16, 12, 17, 18, 19, 5, 20, 28, 29] (by decide +kernel) (by decide +kernel)
set_option maxRecDepth 20000 in
theorem gX5_multiplied_X0_timesEach : GoodIn wsX5_multiplied (wsV RX5 147 RX0 yX0_timesEach wsX0_timesEach) := goodIn_app (goodIn_of _ (by decide +kernel)) ggX5_multiplied_X0_timesEach
theorem dX5_multiplied_0 : decode cX5_multiplied 0 = .ok (.aload_n 0, 1) := by decide +kernel
theorem dX5_multiplied_1 : decode cX5_multiplied 1 = .ok (.getfield 10, 3) := by decide +kernel
theorem dX5_multiplied_4 : decode cX5_multiplied 4 = .ok (.iload_n 1, 1) := by decide +kernel
theorem dX5_multiplied_5 : decode cX5_multiplied 5 = .ok (.invokevirtual 75, 3) := by decide +kernel
theorem dX5_multiplied_8 : decode cX5_multiplied 8 = .ok (.ifCond .eq 14, 3) := by decide +kernel
theorem dX5_multiplied_11 : decode cX5_multiplied 11 = .ok (.aload_n 0, 1) := by decide +kernel
theorem dX5_multiplied_12 : decode cX5_multiplied 12 = .ok (.getfield 10, 3) := by decide +kernel
theorem dX5_multiplied_15 : decode cX5_multiplied 15 = .ok (.iload_n 2, 1) := by decide +kernel
theorem dX5_multiplied_16 : decode cX5_multiplied 16 = .ok (.invokevirtual 144, 3) := by decide +kernel
theorem dX5_multiplied_19 : decode cX5_multiplied 19 = .ok (.ifCond .ne 6, 3) := by decide +kernel
theorem dX5_multiplied_22 : decode cX5_multiplied 22 = .ok (.bipush (-2), 2) := by decide +kernel
theorem dX5_multiplied_24 : decode cX5_multiplied 24 = .ok (.ireturn, 1) := by decide +kernel
theorem dX5_multiplied_25 : decode cX5_multiplied 25 = .ok (.aload_n 0, 1) := by decide +kernel
theorem dX5_multiplied_26 : decode cX5_multiplied 26 = .ok (.getfield 10, 3) := by decide +kernel
theorem dX5_multiplied_29 : decode cX5_multiplied 29 = .ok (.iload_n 1, 1) := by decide +kernel
theorem dX5_multiplied_30 : decode cX5_multiplied 30 = .ok (.iload_n 2, 1) := by decide +kernel
theorem dX5_multiplied_31 : decode cX5_multiplied 31 = .ok (.invokevirtual 147, 3) := by decide +kernel
theorem dX5_multiplied_34 : decode cX5_multiplied 34 = .ok (.ireturn, 1) := by decide +kernel
set_option maxRecDepth 20000 in
theorem ggX5_within_X0_hasSet : GoodIn wsX5_within wsX0_hasSet := goodIn_r _ [6, 7, 52, 53] (by decide +kernel) (by decide +kernel)
set_option maxRecDepth 20000 in
theorem gX5_within_X0_hasSet : GoodIn wsX5_within (wsV RX5 75 RX0 yX0_hasSet wsX0_hasSet) := goodIn_app (goodIn_of _ (by decide +kernel)) ggX5_within_X0_hasSet
set_option maxRecDepth 20000 in
theorem ggX5_within_X5_isClassKind : GoodIn wsX5_within wsX5_isClassKind := goodIn_r _ [11] (by decide +kernel) (by decide +kernel)
set_option maxRecDepth 20000 in
theorem gX5_within_X5_isClassKind : GoodIn wsX5_within (va_wsS RX5 79 yX5_isClassKind wsX5_isClassKind) := goodIn_app (goodIn_of _ (by decide +kernel)) ggX5_within_X5_isClassKind
set_option maxRecDepth 20000 in
theorem ggX5_within_X0_membersInside : GoodIn wsX5_within wsX0_membersInside := goodIn_r _ [15, 16, 17, 18, 5, 19, 20, 21, 22, 23, 24, 25, 10, 26, 27, 28, 29, 30, 31, 32, 33, 34, 35, 36, 37, 38, 39, 40, 41, 42, 7, 43, 44, 52, 53] (by decide +kernel) (by decide +kernel)
set_option maxRecDepth 20000 in
theorem gX5_within_X0_membersInside : GoodIn wsX5_within (wsV RX5 89 RX0 yX0_membersInside wsX0_membersInside) := goodIn_app (goodIn_of _ (by decide +kernel)) ggX5_within_X0_membersInside
theorem dX5_within_0 : decode cX5_within 0 = .ok (.aload_n 0, 1) := by decide +kernel
theorem dX5_within_1 : decode cX5_within 1 = .ok (.getfield 10, 3) := by decide +kernel
theorem dX5_within_4 : decode cX5_within 4 = .ok (.iload_n 1, 1) := by decide +kernel
theorem dX5_within_5 : decode cX5_within 5 = .ok (.invokevirtual 75, 3) := by decide +kernel
theorem dX5_within_8 : decode cX5_within 8 = .ok (.ifCond .eq 21, 3) := by decide +kernel
theorem dX5_within_11 : decode cX5_within 11 = .ok (.aload_n 0, 1) := by decide +kernel
theorem dX5_within_12 : decode cX5_within 12 = .ok (.getfield 10, 3) := by decide +kernel
theorem dX5_within_15 : decode cX5_within 15 = .ok (.iload_n 2, 1) := by decide +kernel
theorem dX5_within_16 : decode cX5_within 16 = .ok (.invokevirtual 75, 3) := by decide +kernel
theorem dX5_within_19 : decode cX5_within 19 = .ok (.ifCond .eq 10, 3) := by decide +kernel
theorem dX5_within_22 : decode cX5_within 22 = .ok (.iload_n 3, 1) := by decide +kernel
theorem dX5_within_23 : decode cX5_within 23 = .ok (.invokestatic 79, 3) := by decide +kernel
theorem dX5_within_26 : decode cX5_within 26 = .ok (.ifCond .ne 6, 3) := by decide +kernel
theorem dX5_within_29 : decode cX5_within 29 = .ok (.bipush (-2), 2) := by decide +kernel
theorem dX5_within_31 : decode cX5_within 31 = .ok (.ireturn, 1) := by decide +kernel
theorem dX5_within_32 : decode cX5_within 32 = .ok (.aload_n 0, 1) := by decide +kernel
theorem dX5_within_33 : decode cX5_within 33 = .ok (.getfield 10, 3) := by decide +kernel
theorem dX5_within_36 : decode cX5_within 36 = .ok (.iload_n 2, 1) := by decide +kernel
theorem dX5_within_37 : decode cX5_within 37 = .ok (.iload_n 3, 1) := by decide +kernel
theorem dX5_within_38 : decode cX5_within 38 = .ok (.iload_n 1, 1) := by decide +kernel
theorem dX5_within_39 : decode cX5_within 39 = .ok (.invokevirtual 89, 3) := by decide +kernel
theorem dX5_within_42 : decode cX5_within 42 = .ok (.ireturn, 1) := by decide +kernel
set_option maxRecDepth 20000 in
theorem ggX5_common_X0_hasSet : GoodIn wsX5_common wsX0_hasSet := goodIn_r _ [6, 7, 43, 44] (by decide +kernel) (by decide +kernel)
set_option maxRecDepth 20000 in
theorem gX5_common_X0_hasSet : GoodIn wsX5_common (wsV RX5 75 RX0 yX0_hasSet wsX0_hasSet) := goodIn_app (goodIn_of _ (by decide +kernel)) ggX5_common_X0_hasSet
set_option maxRecDepth 20000 in
theorem ggX5_common_X0_hasStep : GoodIn wsX5_common wsX0_hasStep := goodIn_r _ [11, 12, 43, 44] (by decide +kernel) (by decide +kernel)
set_option maxRecDepth 20000 in
theorem gX5_common_X0_hasStep : GoodIn wsX5_common (wsV RX5 144 RX0 yX0_hasStep wsX0_hasStep) := goodIn_app (goodIn_of _ (by decide +kernel)) ggX5_common_X0_hasStep
set_option maxRecDepth 20000 in
theorem ggX5_common_X0_mirroredIf : GoodIn wsX5_common wsX0_mirroredIf := goodIn_r _ [16, 12, 17, 18, 19, 5, 20, 21, 22, 23, 24, 43, 44] (by decide +kernel) (by decide +kernel)
set_option maxRecDepth 20000 in
theorem gX5_common_X0_mirroredIf : GoodIn wsX5_common (wsV RX5 150 RX0 yX0_mirroredIf wsX0_mirroredIf) := goodIn_app (goodIn_of _ (by decide +kernel)) ggX5_common_X0_mirroredIf
set_option maxRecDepth 20000 in
theorem ggX5_common_X0_turned : GoodIn wsX5_common wsX0_turned := goodIn_r _ [28, 12, 7, 43, 44] (by decide +kernel) (by decide +kernel)
set_option maxRecDepth 20000 in
theorem gX5_common_X0_turned : GoodIn wsX5_common (wsV RX5 154 RX0 yX0_turned wsX0_turned) := goodIn_app (goodIn_of _ (by decide +kernel)) ggX5_common_X0_turned
set_option maxRecDepth 20000 in
theorem ggX5_common_J6_bitCount_0f7a4 : GoodIn wsX5_common wsJ6_bitCount_0f7a4 := goodIn_r _ [32, 33, 34, 35] (by decide +kernel) (by decide +kernel)
set_option maxRecDepth 20000 in
theorem gX5_common_J6_bitCount_0f7a4 : GoodIn wsX5_common (va_wsS RX5 129 yJ6_bitCount_0f7a4 wsJ6_bitCount_0f7a4) := goodIn_app (goodIn_of _ (by decide +kernel)) ggX5_common_J6_bitCount_0f7a4
theorem dX5_common_0 : decode cX5_common 0 = .ok (.aload_n 0, 1) := by decide +kernel
theorem dX5_common_1 : decode cX5_common 1 = .ok (.getfield 10, 3) := by decide +kernel
theorem dX5_common_4 : decode cX5_common 4 = .ok (.iload_n 1, 1) := by decide +kernel
theorem dX5_common_5 : decode cX5_common 5 = .ok (.invokevirtual 75, 3) := by decide +kernel
theorem dX5_common_8 : decode cX5_common 8 = .ok (.ifCond .eq 25, 3) := by decide +kernel
theorem dX5_common_11 : decode cX5_common 11 = .ok (.aload_n 0, 1) := by decide +kernel
theorem dX5_common_12 : decode cX5_common 12 = .ok (.getfield 10, 3) := by decide +kernel
theorem dX5_common_15 : decode cX5_common 15 = .ok (.iload_n 2, 1) := by decide +kernel
theorem dX5_common_16 : decode cX5_common 16 = .ok (.invokevirtual 75, 3) := by decide +kernel
theorem dX5_common_19 : decode cX5_common 19 = .ok (.ifCond .eq 14, 3) := by decide +kernel
theorem dX5_common_22 : decode cX5_common 22 = .ok (.aload_n 0, 1) := by decide +kernel
theorem dX5_common_23 : decode cX5_common 23 = .ok (.getfield 10, 3) := by decide +kernel
theorem dX5_common_26 : decode cX5_common 26 = .ok (.iload_n 3, 1) := by decide +kernel
theorem dX5_common_27 : decode cX5_common 27 = .ok (.invokevirtual 144, 3) := by decide +kernel
theorem dX5_common_30 : decode cX5_common 30 = .ok (.ifCond .ne 6, 3) := by decide +kernel
theorem dX5_common_33 : decode cX5_common 33 = .ok (.bipush (-2), 2) := by decide +kernel
theorem dX5_common_35 : decode cX5_common 35 = .ok (.ireturn, 1) := by decide +kernel
theorem dX5_common_36 : decode cX5_common 36 = .ok (.iload_n 1, 1) := by decide +kernel
theorem dX5_common_37 : decode cX5_common 37 = .ok (.aload_n 0, 1) := by decide +kernel
theorem dX5_common_38 : decode cX5_common 38 = .ok (.getfield 10, 3) := by decide +kernel
theorem dX5_common_41 : decode cX5_common 41 = .ok (.aload_n 0, 1) := by decide +kernel
theorem dX5_common_42 : decode cX5_common 42 = .ok (.getfield 10, 3) := by decide +kernel
theorem dX5_common_45 : decode cX5_common 45 = .ok (.iload_n 2, 1) := by decide +kernel
theorem dX5_common_46 : decode cX5_common 46 = .ok (.iload 4, 2) := by decide +kernel
theorem dX5_common_48 : decode cX5_common 48 = .ok (.invokevirtual 150, 3) := by decide +kernel
theorem dX5_common_51 : decode cX5_common 51 = .ok (.iload_n 3, 1) := by decide +kernel
theorem dX5_common_52 : decode cX5_common 52 = .ok (.invokevirtual 154, 3) := by decide +kernel
theorem dX5_common_55 : decode cX5_common 55 = .ok (.iand, 1) := by decide +kernel
theorem dX5_common_56 : decode cX5_common 56 = .ok (.invokestatic 129, 3) := by decide +kernel
theorem dX5_common_59 : decode cX5_common 59 = .ok (.ireturn, 1) := by decide +kernel
set_option maxRecDepth 20000 in
theorem ggX5_best_X0_hasSet : GoodIn wsX5_best wsX0_hasSet := goodIn_r _ [6, 7, 43, 44] (by decide +kernel) (by decide +kernel)
set_option maxRecDepth 20000 in
theorem gX5_best_X0_hasSet : GoodIn wsX5_best (wsV RX5 75 RX0 yX0_hasSet wsX0_hasSet) := goodIn_app (goodIn_of _ (by decide +kernel)) ggX5_best_X0_hasSet
set_option maxRecDepth 20000 in
theorem ggX5_best_X0_mirroredIf : GoodIn wsX5_best wsX0_mirroredIf := goodIn_r _ [11, 12, 13, 14, 15, 5, 16, 17, 18, 19, 20, 43, 44] (by decide +kernel) (by decide +kernel)
set_option maxRecDepth 20000 in
theorem gX5_best_X0_mirroredIf : GoodIn wsX5_best (wsV RX5 150 RX0 yX0_mirroredIf wsX0_mirroredIf) := goodIn_app (goodIn_of _ (by decide +kernel)) ggX5_best_X0_mirroredIf
set_option maxRecDepth 20000 in
theorem ggX5_best_X0_count : GoodIn wsX5_best wsX0_count := goodIn_r _ [24, 12, 43, 44] (by decide +kernel) (by decide +kernel)
set_option maxRecDepth 20000 in
theorem gX5_best_X0_count : GoodIn wsX5_best (wsV RX5 61 RX0 yX0_count wsX0_count) := goodIn_app (goodIn_of _ (by decide +kernel)) ggX5_best_X0_count
set_option maxRecDepth 20000 in
theorem ggX5_best_X0_turned : GoodIn wsX5_best wsX0_turned := goodIn_r _ [28, 12, 7, 43, 44] (by decide +kernel) (by decide +kernel)
set_option maxRecDepth 20000 in
theorem gX5_best_X0_turned : GoodIn wsX5_best (wsV RX5 154 RX0 yX0_turned wsX0_turned) := goodIn_app (goodIn_of _ (by decide +kernel)) ggX5_best_X0_turned
set_option maxRecDepth 20000 in
theorem ggX5_best_J6_bitCount_0f7a4 : GoodIn wsX5_best wsJ6_bitCount_0f7a4 := goodIn_r _ [32, 33, 34, 35] (by decide +kernel) (by decide +kernel)
set_option maxRecDepth 20000 in
theorem gX5_best_J6_bitCount_0f7a4 : GoodIn wsX5_best (va_wsS RX5 129 yJ6_bitCount_0f7a4 wsJ6_bitCount_0f7a4) := goodIn_app (goodIn_of _ (by decide +kernel)) ggX5_best_J6_bitCount_0f7a4
theorem dX5_best_0 : decode cX5_best 0 = .ok (.aload_n 0, 1) := by decide +kernel
theorem dX5_best_1 : decode cX5_best 1 = .ok (.getfield 10, 3) := by decide +kernel
theorem dX5_best_4 : decode cX5_best 4 = .ok (.iload_n 1, 1) := by decide +kernel
theorem dX5_best_5 : decode cX5_best 5 = .ok (.invokevirtual 75, 3) := by decide +kernel
theorem dX5_best_8 : decode cX5_best 8 = .ok (.ifCond .eq 14, 3) := by decide +kernel
theorem dX5_best_11 : decode cX5_best 11 = .ok (.aload_n 0, 1) := by decide +kernel
theorem dX5_best_12 : decode cX5_best 12 = .ok (.getfield 10, 3) := by decide +kernel
theorem dX5_best_15 : decode cX5_best 15 = .ok (.iload_n 2, 1) := by decide +kernel
theorem dX5_best_16 : decode cX5_best 16 = .ok (.invokevirtual 75, 3) := by decide +kernel
theorem dX5_best_19 : decode cX5_best 19 = .ok (.ifCond .ne 6, 3) := by decide +kernel
theorem dX5_best_22 : decode cX5_best 22 = .ok (.bipush (-2), 2) := by decide +kernel
theorem dX5_best_24 : decode cX5_best 24 = .ok (.ireturn, 1) := by decide +kernel
theorem dX5_best_25 : decode cX5_best 25 = .ok (.aload_n 0, 1) := by decide +kernel
theorem dX5_best_26 : decode cX5_best 26 = .ok (.getfield 10, 3) := by decide +kernel
theorem dX5_best_29 : decode cX5_best 29 = .ok (.iload_n 2, 1) := by decide +kernel
theorem dX5_best_30 : decode cX5_best 30 = .ok (.iload_n 3, 1) := by decide +kernel
theorem dX5_best_31 : decode cX5_best 31 = .ok (.invokevirtual 150, 3) := by decide +kernel
theorem dX5_best_34 : decode cX5_best 34 = .ok (.istore 4, 2) := by decide +kernel
theorem dX5_best_36 : decode cX5_best 36 = .ok (.iconst 0, 1) := by decide +kernel
theorem dX5_best_37 : decode cX5_best 37 = .ok (.istore 5, 2) := by decide +kernel
theorem dX5_best_39 : decode cX5_best 39 = .ok (.iconst (-1), 1) := by decide +kernel
theorem dX5_best_40 : decode cX5_best 40 = .ok (.istore 6, 2) := by decide +kernel
theorem dX5_best_42 : decode cX5_best 42 = .ok (.iconst 0, 1) := by decide +kernel
theorem dX5_best_43 : decode cX5_best 43 = .ok (.istore 7, 2) := by decide +kernel
theorem dX5_best_45 : decode cX5_best 45 = .ok (.iload 7, 2) := by decide +kernel
theorem dX5_best_47 : decode cX5_best 47 = .ok (.aload_n 0, 1) := by decide +kernel
theorem dX5_best_48 : decode cX5_best 48 = .ok (.getfield 10, 3) := by decide +kernel
theorem dX5_best_51 : decode cX5_best 51 = .ok (.invokevirtual 61, 3) := by decide +kernel
theorem dX5_best_54 : decode cX5_best 54 = .ok (.if_icmp .ge 42, 3) := by decide +kernel
theorem dX5_best_57 : decode cX5_best 57 = .ok (.iload_n 1, 1) := by decide +kernel
theorem dX5_best_58 : decode cX5_best 58 = .ok (.aload_n 0, 1) := by decide +kernel
theorem dX5_best_59 : decode cX5_best 59 = .ok (.getfield 10, 3) := by decide +kernel
theorem dX5_best_62 : decode cX5_best 62 = .ok (.iload 4, 2) := by decide +kernel
theorem dX5_best_64 : decode cX5_best 64 = .ok (.iload 7, 2) := by decide +kernel
theorem dX5_best_66 : decode cX5_best 66 = .ok (.invokevirtual 154, 3) := by decide +kernel
theorem dX5_best_69 : decode cX5_best 69 = .ok (.iand, 1) := by decide +kernel
theorem dX5_best_70 : decode cX5_best 70 = .ok (.invokestatic 129, 3) := by decide +kernel
theorem dX5_best_73 : decode cX5_best 73 = .ok (.istore 8, 2) := by decide +kernel
theorem dX5_best_75 : decode cX5_best 75 = .ok (.iload 8, 2) := by decide +kernel
theorem dX5_best_77 : decode cX5_best 77 = .ok (.iload 6, 2) := by decide +kernel
theorem dX5_best_79 : decode cX5_best 79 = .ok (.if_icmp .le 11, 3) := by decide +kernel
theorem dX5_best_82 : decode cX5_best 82 = .ok (.iload 8, 2) := by decide +kernel
theorem dX5_best_84 : decode cX5_best 84 = .ok (.istore 6, 2) := by decide +kernel
theorem dX5_best_86 : decode cX5_best 86 = .ok (.iload 7, 2) := by decide +kernel
theorem dX5_best_88 : decode cX5_best 88 = .ok (.istore 5, 2) := by decide +kernel
theorem dX5_best_90 : decode cX5_best 90 = .ok (.iinc 7 1, 3) := by decide +kernel
theorem dX5_best_93 : decode cX5_best 93 = .ok (.goto (-48), 3) := by decide +kernel
theorem dX5_best_96 : decode cX5_best 96 = .ok (.iload 5, 2) := by decide +kernel
theorem dX5_best_98 : decode cX5_best 98 = .ok (.ireturn, 1) := by decide +kernel
set_option maxRecDepth 20000 in
theorem ggX5_keeps_X0_hasSet : GoodIn wsX5_keeps wsX0_hasSet := goodIn_r _ [6, 7, 36, 37] (by decide +kernel) (by decide +kernel)
set_option maxRecDepth 20000 in
theorem gX5_keeps_X0_hasSet : GoodIn wsX5_keeps (wsV RX5 75 RX0 yX0_hasSet wsX0_hasSet) := goodIn_app (goodIn_of _ (by decide +kernel)) ggX5_keeps_X0_hasSet
set_option maxRecDepth 20000 in
theorem ggX5_keeps_X0_mirroredIf : GoodIn wsX5_keeps wsX0_mirroredIf := goodIn_r _ [11, 12, 13, 14, 15, 5, 16, 17, 18, 19, 20, 36, 37] (by decide +kernel) (by decide +kernel)
set_option maxRecDepth 20000 in
theorem gX5_keeps_X0_mirroredIf : GoodIn wsX5_keeps (wsV RX5 150 RX0 yX0_mirroredIf wsX0_mirroredIf) := goodIn_app (goodIn_of _ (by decide +kernel)) ggX5_keeps_X0_mirroredIf
set_option maxRecDepth 20000 in
theorem ggX5_keeps_X0_count : GoodIn wsX5_keeps wsX0_count := goodIn_r _ [24, 12, 36, 37] (by decide +kernel) (by decide +kernel)
set_option maxRecDepth 20000 in
theorem gX5_keeps_X0_count : GoodIn wsX5_keeps (wsV RX5 61 RX0 yX0_count wsX0_count) := goodIn_app (goodIn_of _ (by decide +kernel)) ggX5_keeps_X0_count
set_option maxRecDepth 20000 in
theorem ggX5_keeps_X0_turned : GoodIn wsX5_keeps wsX0_turned := goodIn_r _ [28, 12, 7, 36, 37] (by decide +kernel) (by decide +kernel)
set_option maxRecDepth 20000 in
theorem gX5_keeps_X0_turned : GoodIn wsX5_keeps (wsV RX5 154 RX0 yX0_turned wsX0_turned) := goodIn_app (goodIn_of _ (by decide +kernel)) ggX5_keeps_X0_turned
theorem dX5_keeps_0 : decode cX5_keeps 0 = .ok (.aload_n 0, 1) := by decide +kernel
theorem dX5_keeps_1 : decode cX5_keeps 1 = .ok (.getfield 10, 3) := by decide +kernel
theorem dX5_keeps_4 : decode cX5_keeps 4 = .ok (.iload_n 1, 1) := by decide +kernel
theorem dX5_keeps_5 : decode cX5_keeps 5 = .ok (.invokevirtual 75, 3) := by decide +kernel
theorem dX5_keeps_8 : decode cX5_keeps 8 = .ok (.ifCond .ne 6, 3) := by decide +kernel
theorem dX5_keeps_11 : decode cX5_keeps 11 = .ok (.bipush (-2), 2) := by decide +kernel
theorem dX5_keeps_13 : decode cX5_keeps 13 = .ok (.ireturn, 1) := by decide +kernel
theorem dX5_keeps_14 : decode cX5_keeps 14 = .ok (.aload_n 0, 1) := by decide +kernel
theorem dX5_keeps_15 : decode cX5_keeps 15 = .ok (.getfield 10, 3) := by decide +kernel
theorem dX5_keeps_18 : decode cX5_keeps 18 = .ok (.iload_n 1, 1) := by decide +kernel
theorem dX5_keeps_19 : decode cX5_keeps 19 = .ok (.iload_n 2, 1) := by decide +kernel
theorem dX5_keeps_20 : decode cX5_keeps 20 = .ok (.invokevirtual 150, 3) := by decide +kernel
theorem dX5_keeps_23 : decode cX5_keeps 23 = .ok (.istore_n 3, 1) := by decide +kernel
theorem dX5_keeps_24 : decode cX5_keeps 24 = .ok (.iconst 0, 1) := by decide +kernel
theorem dX5_keeps_25 : decode cX5_keeps 25 = .ok (.istore 4, 2) := by decide +kernel
theorem dX5_keeps_27 : decode cX5_keeps 27 = .ok (.iconst 0, 1) := by decide +kernel
theorem dX5_keeps_28 : decode cX5_keeps 28 = .ok (.istore 5, 2) := by decide +kernel
theorem dX5_keeps_30 : decode cX5_keeps 30 = .ok (.iload 5, 2) := by decide +kernel
theorem dX5_keeps_32 : decode cX5_keeps 32 = .ok (.aload_n 0, 1) := by decide +kernel
theorem dX5_keeps_33 : decode cX5_keeps 33 = .ok (.getfield 10, 3) := by decide +kernel
theorem dX5_keeps_36 : decode cX5_keeps 36 = .ok (.invokevirtual 61, 3) := by decide +kernel
theorem dX5_keeps_39 : decode cX5_keeps 39 = .ok (.if_icmp .ge 26, 3) := by decide +kernel
theorem dX5_keeps_42 : decode cX5_keeps 42 = .ok (.aload_n 0, 1) := by decide +kernel
theorem dX5_keeps_43 : decode cX5_keeps 43 = .ok (.getfield 10, 3) := by decide +kernel
theorem dX5_keeps_46 : decode cX5_keeps 46 = .ok (.iload_n 3, 1) := by decide +kernel
theorem dX5_keeps_47 : decode cX5_keeps 47 = .ok (.iload 5, 2) := by decide +kernel
theorem dX5_keeps_49 : decode cX5_keeps 49 = .ok (.invokevirtual 154, 3) := by decide +kernel
theorem dX5_keeps_52 : decode cX5_keeps 52 = .ok (.iload_n 1, 1) := by decide +kernel
theorem dX5_keeps_53 : decode cX5_keeps 53 = .ok (.if_icmp .ne 6, 3) := by decide +kernel
theorem dX5_keeps_56 : decode cX5_keeps 56 = .ok (.iinc 4 1, 3) := by decide +kernel
theorem dX5_keeps_59 : decode cX5_keeps 59 = .ok (.iinc 5 1, 3) := by decide +kernel
theorem dX5_keeps_62 : decode cX5_keeps 62 = .ok (.goto (-32), 3) := by decide +kernel
theorem dX5_keeps_65 : decode cX5_keeps 65 = .ok (.iload 4, 2) := by decide +kernel
theorem dX5_keeps_67 : decode cX5_keeps 67 = .ok (.ireturn, 1) := by decide +kernel
set_option maxRecDepth 20000 in
theorem ggX5_even_X0_hasSet : GoodIn wsX5_even wsX0_hasSet := goodIn_r _ [6, 7, 43, 44] (by decide +kernel) (by decide +kernel)
set_option maxRecDepth 20000 in
theorem gX5_even_X0_hasSet : GoodIn wsX5_even (wsV RX5 75 RX0 yX0_hasSet wsX0_hasSet) := goodIn_app (goodIn_of _ (by decide +kernel)) ggX5_even_X0_hasSet
set_option maxRecDepth 20000 in
theorem ggX5_even_J6_bitCount_0f7a4 : GoodIn wsX5_even wsJ6_bitCount_0f7a4 := goodIn_r _ [11, 12, 13, 14] (by decide +kernel) (by decide +kernel)
set_option maxRecDepth 20000 in
theorem gX5_even_J6_bitCount_0f7a4 : GoodIn wsX5_even (va_wsS RX5 129 yJ6_bitCount_0f7a4 wsJ6_bitCount_0f7a4) := goodIn_app (goodIn_of _ (by decide +kernel)) ggX5_even_J6_bitCount_0f7a4
set_option maxRecDepth 20000 in
theorem ggX5_even_X0_hasLikeWays : GoodIn wsX5_even wsX0_hasLikeWays := goodIn_r _ [18, 19, 20, 21, 22, 23, 24, 25, 26, 27, 9, 10, 11, 12, 13, 14, 28, 29, 30, 5, 31, 32, 33, 34, 35, 43, 44] (by decide +kernel) (by decide +kernel)
set_option maxRecDepth 20000 in
theorem gX5_even_X0_hasLikeWays : GoodIn wsX5_even (wsV RX5 157 RX0 yX0_hasLikeWays wsX0_hasLikeWays) := goodIn_app (goodIn_of _ (by decide +kernel)) ggX5_even_X0_hasLikeWays
theorem dX5_even_0 : decode cX5_even 0 = .ok (.aload_n 0, 1) := by decide +kernel
theorem dX5_even_1 : decode cX5_even 1 = .ok (.getfield 10, 3) := by decide +kernel
theorem dX5_even_4 : decode cX5_even 4 = .ok (.iload_n 1, 1) := by decide +kernel
theorem dX5_even_5 : decode cX5_even 5 = .ok (.invokevirtual 75, 3) := by decide +kernel
theorem dX5_even_8 : decode cX5_even 8 = .ok (.ifCond .ne 6, 3) := by decide +kernel
theorem dX5_even_11 : decode cX5_even 11 = .ok (.bipush (-2), 2) := by decide +kernel
theorem dX5_even_13 : decode cX5_even 13 = .ok (.ireturn, 1) := by decide +kernel
theorem dX5_even_14 : decode cX5_even 14 = .ok (.iload_n 1, 1) := by decide +kernel
theorem dX5_even_15 : decode cX5_even 15 = .ok (.ifCond .ne 5, 3) := by decide +kernel
theorem dX5_even_18 : decode cX5_even 18 = .ok (.iconst 0, 1) := by decide +kernel
theorem dX5_even_19 : decode cX5_even 19 = .ok (.ireturn, 1) := by decide +kernel
theorem dX5_even_20 : decode cX5_even 20 = .ok (.iload_n 1, 1) := by decide +kernel
theorem dX5_even_21 : decode cX5_even 21 = .ok (.invokestatic 129, 3) := by decide +kernel
theorem dX5_even_24 : decode cX5_even 24 = .ok (.istore_n 2, 1) := by decide +kernel
theorem dX5_even_25 : decode cX5_even 25 = .ok (.iconst 1, 1) := by decide +kernel
theorem dX5_even_26 : decode cX5_even 26 = .ok (.istore_n 3, 1) := by decide +kernel
theorem dX5_even_27 : decode cX5_even 27 = .ok (.iload_n 3, 1) := by decide +kernel
theorem dX5_even_28 : decode cX5_even 28 = .ok (.iload_n 2, 1) := by decide +kernel
theorem dX5_even_29 : decode cX5_even 29 = .ok (.if_icmp .ge 23, 3) := by decide +kernel
theorem dX5_even_32 : decode cX5_even 32 = .ok (.aload_n 0, 1) := by decide +kernel
theorem dX5_even_33 : decode cX5_even 33 = .ok (.getfield 10, 3) := by decide +kernel
theorem dX5_even_36 : decode cX5_even 36 = .ok (.iload_n 1, 1) := by decide +kernel
theorem dX5_even_37 : decode cX5_even 37 = .ok (.iload_n 3, 1) := by decide +kernel
theorem dX5_even_38 : decode cX5_even 38 = .ok (.invokevirtual 157, 3) := by decide +kernel
theorem dX5_even_41 : decode cX5_even 41 = .ok (.ifCond .ne 5, 3) := by decide +kernel
theorem dX5_even_44 : decode cX5_even 44 = .ok (.iconst 0, 1) := by decide +kernel
theorem dX5_even_45 : decode cX5_even 45 = .ok (.ireturn, 1) := by decide +kernel
theorem dX5_even_46 : decode cX5_even 46 = .ok (.iinc 3 1, 3) := by decide +kernel
theorem dX5_even_49 : decode cX5_even 49 = .ok (.goto (-22), 3) := by decide +kernel
theorem dX5_even_52 : decode cX5_even 52 = .ok (.iconst 1, 1) := by decide +kernel
theorem dX5_even_53 : decode cX5_even 53 = .ok (.ireturn, 1) := by decide +kernel
set_option maxRecDepth 20000 in
theorem ggX5_spread_X0_count : GoodIn wsX5_spread wsX0_count := goodIn_r _ [6, 7, 19, 20] (by decide +kernel) (by decide +kernel)
set_option maxRecDepth 20000 in
theorem gX5_spread_X0_count : GoodIn wsX5_spread (wsV RX5 61 RX0 yX0_count wsX0_count) := goodIn_app (goodIn_of _ (by decide +kernel)) ggX5_spread_X0_count
set_option maxRecDepth 20000 in
theorem ggX5_spread_X0_hasStep : GoodIn wsX5_spread wsX0_hasStep := goodIn_r _ [11, 7, 19, 20] (by decide +kernel) (by decide +kernel)
set_option maxRecDepth 20000 in
theorem gX5_spread_X0_hasStep : GoodIn wsX5_spread (wsV RX5 144 RX0 yX0_hasStep wsX0_hasStep) := goodIn_app (goodIn_of _ (by decide +kernel)) ggX5_spread_X0_hasStep
theorem dX5_spread_0 : decode cX5_spread 0 = .ok (.iload_n 1, 1) := by decide +kernel
theorem dX5_spread_1 : decode cX5_spread 1 = .ok (.iconst 1, 1) := by decide +kernel
theorem dX5_spread_2 : decode cX5_spread 2 = .ok (.if_icmp .lt 25, 3) := by decide +kernel
theorem dX5_spread_5 : decode cX5_spread 5 = .ok (.iload_n 1, 1) := by decide +kernel
theorem dX5_spread_6 : decode cX5_spread 6 = .ok (.aload_n 0, 1) := by decide +kernel
theorem dX5_spread_7 : decode cX5_spread 7 = .ok (.getfield 10, 3) := by decide +kernel
theorem dX5_spread_10 : decode cX5_spread 10 = .ok (.invokevirtual 61, 3) := by decide +kernel
theorem dX5_spread_13 : decode cX5_spread 13 = .ok (.if_icmp .gt 14, 3) := by decide +kernel
theorem dX5_spread_16 : decode cX5_spread 16 = .ok (.aload_n 0, 1) := by decide +kernel
theorem dX5_spread_17 : decode cX5_spread 17 = .ok (.getfield 10, 3) := by decide +kernel
theorem dX5_spread_20 : decode cX5_spread 20 = .ok (.iload_n 2, 1) := by decide +kernel
theorem dX5_spread_21 : decode cX5_spread 21 = .ok (.invokevirtual 144, 3) := by decide +kernel
theorem dX5_spread_24 : decode cX5_spread 24 = .ok (.ifCond .ne 6, 3) := by decide +kernel
theorem dX5_spread_27 : decode cX5_spread 27 = .ok (.bipush (-2), 2) := by decide +kernel
theorem dX5_spread_29 : decode cX5_spread 29 = .ok (.ireturn, 1) := by decide +kernel
theorem dX5_spread_30 : decode cX5_spread 30 = .ok (.iconst 0, 1) := by decide +kernel
theorem dX5_spread_31 : decode cX5_spread 31 = .ok (.istore_n 3, 1) := by decide +kernel
theorem dX5_spread_32 : decode cX5_spread 32 = .ok (.iconst 0, 1) := by decide +kernel
theorem dX5_spread_33 : decode cX5_spread 33 = .ok (.istore 4, 2) := by decide +kernel
theorem dX5_spread_35 : decode cX5_spread 35 = .ok (.iload 4, 2) := by decide +kernel
theorem dX5_spread_37 : decode cX5_spread 37 = .ok (.iload_n 1, 1) := by decide +kernel
theorem dX5_spread_38 : decode cX5_spread 38 = .ok (.if_icmp .ge 28, 3) := by decide +kernel
theorem dX5_spread_41 : decode cX5_spread 41 = .ok (.iload_n 3, 1) := by decide +kernel
theorem dX5_spread_42 : decode cX5_spread 42 = .ok (.iconst 1, 1) := by decide +kernel
theorem dX5_spread_43 : decode cX5_spread 43 = .ok (.aload_n 0, 1) := by decide +kernel
theorem dX5_spread_44 : decode cX5_spread 44 = .ok (.getfield 10, 3) := by decide +kernel
theorem dX5_spread_47 : decode cX5_spread 47 = .ok (.invokevirtual 61, 3) := by decide +kernel
theorem dX5_spread_50 : decode cX5_spread 50 = .ok (.iload 4, 2) := by decide +kernel
theorem dX5_spread_52 : decode cX5_spread 52 = .ok (.imul, 1) := by decide +kernel
theorem dX5_spread_53 : decode cX5_spread 53 = .ok (.iload_n 2, 1) := by decide +kernel
theorem dX5_spread_54 : decode cX5_spread 54 = .ok (.iadd, 1) := by decide +kernel
theorem dX5_spread_55 : decode cX5_spread 55 = .ok (.iload_n 1, 1) := by decide +kernel
theorem dX5_spread_56 : decode cX5_spread 56 = .ok (.idiv, 1) := by decide +kernel
theorem dX5_spread_57 : decode cX5_spread 57 = .ok (.ishl, 1) := by decide +kernel
theorem dX5_spread_58 : decode cX5_spread 58 = .ok (.ior, 1) := by decide +kernel
theorem dX5_spread_59 : decode cX5_spread 59 = .ok (.istore_n 3, 1) := by decide +kernel
theorem dX5_spread_60 : decode cX5_spread 60 = .ok (.iinc 4 1, 3) := by decide +kernel
theorem dX5_spread_63 : decode cX5_spread 63 = .ok (.goto (-28), 3) := by decide +kernel
theorem dX5_spread_66 : decode cX5_spread 66 = .ok (.iload_n 3, 1) := by decide +kernel
theorem dX5_spread_67 : decode cX5_spread 67 = .ok (.ireturn, 1) := by decide +kernel
set_option maxRecDepth 20000 in
theorem ggX5_generator_X0_hasSet : GoodIn wsX5_generator wsX0_hasSet := goodIn_r _ [6, 7, 36, 37] (by decide +kernel) (by decide +kernel)
set_option maxRecDepth 20000 in
theorem gX5_generator_X0_hasSet : GoodIn wsX5_generator (wsV RX5 75 RX0 yX0_hasSet wsX0_hasSet) := goodIn_app (goodIn_of _ (by decide +kernel)) ggX5_generator_X0_hasSet
set_option maxRecDepth 20000 in
theorem ggX5_generator_X0_count : GoodIn wsX5_generator wsX0_count := goodIn_r _ [11, 12, 36, 37] (by decide +kernel) (by decide +kernel)
set_option maxRecDepth 20000 in
theorem gX5_generator_X0_count : GoodIn wsX5_generator (wsV RX5 61 RX0 yX0_count wsX0_count) := goodIn_app (goodIn_of _ (by decide +kernel)) ggX5_generator_X0_count
set_option maxRecDepth 20000 in
theorem ggX5_generator_X5_isChain : GoodIn wsX5_generator wsX5_isChain := goodIn_r _ [17, 1, 18, 19, 20, 21, 22, 23, 24, 8, 9, 10, 5, 11, 12, 25, 26, 27, 28, 29, 30, 31, 32, 33, 34, 35, 36, 37] (by decide +kernel) (by decide +kernel)
set_option maxRecDepth 20000 in
theorem gX5_generator_X5_isChain : GoodIn wsX5_generator (wsV RX5 160 RX5 yX5_isChain wsX5_isChain) := goodIn_app (goodIn_of _ (by decide +kernel)) ggX5_generator_X5_isChain
