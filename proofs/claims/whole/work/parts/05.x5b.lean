theorem dX5_generator_0 : decode cX5_generator 0 = .ok (.aload_n 0, 1) := by decide +kernel
theorem dX5_generator_1 : decode cX5_generator 1 = .ok (.getfield 10, 3) := by decide +kernel
theorem dX5_generator_4 : decode cX5_generator 4 = .ok (.iload_n 1, 1) := by decide +kernel
theorem dX5_generator_5 : decode cX5_generator 5 = .ok (.invokevirtual 75, 3) := by decide +kernel
theorem dX5_generator_8 : decode cX5_generator 8 = .ok (.ifCond .ne 6, 3) := by decide +kernel
theorem dX5_generator_11 : decode cX5_generator 11 = .ok (.bipush (-2), 2) := by decide +kernel
theorem dX5_generator_13 : decode cX5_generator 13 = .ok (.ireturn, 1) := by decide +kernel
theorem dX5_generator_14 : decode cX5_generator 14 = .ok (.iload_n 1, 1) := by decide +kernel
theorem dX5_generator_15 : decode cX5_generator 15 = .ok (.ifCond .ne 6, 3) := by decide +kernel
theorem dX5_generator_18 : decode cX5_generator 18 = .ok (.bipush (-3), 2) := by decide +kernel
theorem dX5_generator_20 : decode cX5_generator 20 = .ok (.ireturn, 1) := by decide +kernel
theorem dX5_generator_21 : decode cX5_generator 21 = .ok (.iconst 0, 1) := by decide +kernel
theorem dX5_generator_22 : decode cX5_generator 22 = .ok (.istore_n 2, 1) := by decide +kernel
theorem dX5_generator_23 : decode cX5_generator 23 = .ok (.iload_n 2, 1) := by decide +kernel
theorem dX5_generator_24 : decode cX5_generator 24 = .ok (.aload_n 0, 1) := by decide +kernel
theorem dX5_generator_25 : decode cX5_generator 25 = .ok (.getfield 10, 3) := by decide +kernel
theorem dX5_generator_28 : decode cX5_generator 28 = .ok (.invokevirtual 61, 3) := by decide +kernel
theorem dX5_generator_31 : decode cX5_generator 31 = .ok (.if_icmp .ge 20, 3) := by decide +kernel
theorem dX5_generator_34 : decode cX5_generator 34 = .ok (.aload_n 0, 1) := by decide +kernel
theorem dX5_generator_35 : decode cX5_generator 35 = .ok (.iload_n 1, 1) := by decide +kernel
theorem dX5_generator_36 : decode cX5_generator 36 = .ok (.iload_n 2, 1) := by decide +kernel
theorem dX5_generator_37 : decode cX5_generator 37 = .ok (.invokevirtual 160, 3) := by decide +kernel
theorem dX5_generator_40 : decode cX5_generator 40 = .ok (.ifCond .eq 5, 3) := by decide +kernel
theorem dX5_generator_43 : decode cX5_generator 43 = .ok (.iload_n 2, 1) := by decide +kernel
theorem dX5_generator_44 : decode cX5_generator 44 = .ok (.ireturn, 1) := by decide +kernel
theorem dX5_generator_45 : decode cX5_generator 45 = .ok (.iinc 2 1, 3) := by decide +kernel
theorem dX5_generator_48 : decode cX5_generator 48 = .ok (.goto (-25), 3) := by decide +kernel
theorem dX5_generator_51 : decode cX5_generator 51 = .ok (.bipush (-3), 2) := by decide +kernel
theorem dX5_generator_53 : decode cX5_generator 53 = .ok (.ireturn, 1) := by decide +kernel
set_option maxRecDepth 20000 in
theorem ggX5_add_X0_hasStep : GoodIn wsX5_add wsX0_hasStep := goodIn_r _ [7, 8, 32, 33] (by decide +kernel) (by decide +kernel)
set_option maxRecDepth 20000 in
theorem gX5_add_X0_hasStep : GoodIn wsX5_add (wsV RX5 144 RX0 yX0_hasStep wsX0_hasStep) := goodIn_app (goodIn_of _ (by decide +kernel)) ggX5_add_X0_hasStep
set_option maxRecDepth 20000 in
theorem ggX5_add_X3_has : GoodIn wsX5_add wsX3_has := goodIn_r _ [13, 14, 34, 35, 36, 37] (by decide +kernel) (by decide +kernel)
set_option maxRecDepth 20000 in
theorem gX5_add_X3_has : GoodIn wsX5_add (wsV RX5 163 RX3 yX3_has wsX3_has) := goodIn_app (goodIn_of _ (by decide +kernel)) ggX5_add_X3_has
set_option maxRecDepth 20000 in
theorem ggX5_add_X3_append : GoodIn wsX5_add wsX3_append := goodIn_r _ [18, 19, 20, 14, 34, 35, 36, 37] (by decide +kernel) (by decide +kernel)
set_option maxRecDepth 20000 in
theorem gX5_add_X3_append : GoodIn wsX5_add (wsV RX5 166 RX3 yX3_append wsX3_append) := goodIn_app (goodIn_of _ (by decide +kernel)) ggX5_add_X3_append
set_option maxRecDepth 20000 in
theorem ggX5_add_X3_length : GoodIn wsX5_add wsX3_length := goodIn_r _ [24, 19, 34, 35, 36, 37] (by decide +kernel) (by decide +kernel)
set_option maxRecDepth 20000 in
theorem gX5_add_X3_length : GoodIn wsX5_add (wsV RX5 169 RX3 yX3_length wsX3_length) := goodIn_app (goodIn_of _ (by decide +kernel)) ggX5_add_X3_length
theorem dX5_add_0 : decode cX5_add 0 = .ok (.aload_n 0, 1) := by decide +kernel
theorem dX5_add_1 : decode cX5_add 1 = .ok (.getfield 10, 3) := by decide +kernel
theorem dX5_add_4 : decode cX5_add 4 = .ok (.iload_n 1, 1) := by decide +kernel
theorem dX5_add_5 : decode cX5_add 5 = .ok (.invokevirtual 144, 3) := by decide +kernel
theorem dX5_add_8 : decode cX5_add 8 = .ok (.ifCond .ne 6, 3) := by decide +kernel
theorem dX5_add_11 : decode cX5_add 11 = .ok (.bipush (-2), 2) := by decide +kernel
theorem dX5_add_13 : decode cX5_add 13 = .ok (.ireturn, 1) := by decide +kernel
theorem dX5_add_14 : decode cX5_add 14 = .ok (.aload_n 0, 1) := by decide +kernel
theorem dX5_add_15 : decode cX5_add 15 = .ok (.getfield 43, 3) := by decide +kernel
theorem dX5_add_18 : decode cX5_add 18 = .ok (.iload_n 1, 1) := by decide +kernel
theorem dX5_add_19 : decode cX5_add 19 = .ok (.invokevirtual 163, 3) := by decide +kernel
theorem dX5_add_22 : decode cX5_add 22 = .ok (.ifCond .eq 6, 3) := by decide +kernel
theorem dX5_add_25 : decode cX5_add 25 = .ok (.bipush (-3), 2) := by decide +kernel
theorem dX5_add_27 : decode cX5_add 27 = .ok (.ireturn, 1) := by decide +kernel
theorem dX5_add_28 : decode cX5_add 28 = .ok (.aload_n 0, 1) := by decide +kernel
theorem dX5_add_29 : decode cX5_add 29 = .ok (.getfield 43, 3) := by decide +kernel
theorem dX5_add_32 : decode cX5_add 32 = .ok (.iload_n 1, 1) := by decide +kernel
theorem dX5_add_33 : decode cX5_add 33 = .ok (.invokevirtual 166, 3) := by decide +kernel
theorem dX5_add_36 : decode cX5_add 36 = .ok (.aload_n 0, 1) := by decide +kernel
theorem dX5_add_37 : decode cX5_add 37 = .ok (.getfield 43, 3) := by decide +kernel
theorem dX5_add_40 : decode cX5_add 40 = .ok (.invokevirtual 169, 3) := by decide +kernel
theorem dX5_add_43 : decode cX5_add 43 = .ok (.ireturn, 1) := by decide +kernel
set_option maxRecDepth 20000 in
theorem ggX5_clear_X3_length : GoodIn wsX5_clear wsX3_length := goodIn_r _ [6, 7, 20, 21, 22, 23] (by decide +kernel) (by decide +kernel)
set_option maxRecDepth 20000 in
theorem gX5_clear_X3_length : GoodIn wsX5_clear (wsV RX5 169 RX3 yX3_length wsX3_length) := goodIn_app (goodIn_of _ (by decide +kernel)) ggX5_clear_X3_length
set_option maxRecDepth 20000 in
theorem ggX5_clear_X3_empty : GoodIn wsX5_clear wsX3_empty := goodIn_r _ [11, 7, 12, 20, 21, 22, 23] (by decide +kernel) (by decide +kernel)
set_option maxRecDepth 20000 in
theorem gX5_clear_X3_empty : GoodIn wsX5_clear (wsV RX5 72 RX3 yX3_empty wsX3_empty) := goodIn_app (goodIn_of _ (by decide +kernel)) ggX5_clear_X3_empty
theorem dX5_clear_0 : decode cX5_clear 0 = .ok (.aload_n 0, 1) := by decide +kernel
theorem dX5_clear_1 : decode cX5_clear 1 = .ok (.getfield 43, 3) := by decide +kernel
theorem dX5_clear_4 : decode cX5_clear 4 = .ok (.invokevirtual 169, 3) := by decide +kernel
theorem dX5_clear_7 : decode cX5_clear 7 = .ok (.istore_n 1, 1) := by decide +kernel
theorem dX5_clear_8 : decode cX5_clear 8 = .ok (.aload_n 0, 1) := by decide +kernel
theorem dX5_clear_9 : decode cX5_clear 9 = .ok (.getfield 43, 3) := by decide +kernel
theorem dX5_clear_12 : decode cX5_clear 12 = .ok (.invokevirtual 72, 3) := by decide +kernel
theorem dX5_clear_15 : decode cX5_clear 15 = .ok (.iload_n 1, 1) := by decide +kernel
theorem dX5_clear_16 : decode cX5_clear 16 = .ok (.ireturn, 1) := by decide +kernel
set_option maxRecDepth 20000 in
theorem ggX5_form_X5_isFormKind : GoodIn wsX5_form wsX5_isFormKind := goodIn_r _ [6] (by decide +kernel) (by decide +kernel)
set_option maxRecDepth 20000 in
theorem gX5_form_X5_isFormKind : GoodIn wsX5_form (va_wsS RX5 172 yX5_isFormKind wsX5_isFormKind) := goodIn_app (goodIn_of _ (by decide +kernel)) ggX5_form_X5_isFormKind
set_option maxRecDepth 20000 in
theorem ggX5_form_X0_hasStep : GoodIn wsX5_form wsX0_hasStep := goodIn_r _ [11, 12, 49, 50] (by decide +kernel) (by decide +kernel)
set_option maxRecDepth 20000 in
theorem gX5_form_X0_hasStep : GoodIn wsX5_form (wsV RX5 144 RX0 yX0_hasStep wsX0_hasStep) := goodIn_app (goodIn_of _ (by decide +kernel)) ggX5_form_X0_hasStep
set_option maxRecDepth 20000 in
theorem ggX5_form_X3_isWhole : GoodIn wsX5_form wsX3_isWhole := goodIn_r _ [17, 18, 19, 20, 21, 22, 10, 23, 12, 51, 52, 53, 54, 49, 50] (by decide +kernel) (by decide +kernel)
set_option maxRecDepth 20000 in
theorem gX5_form_X3_isWhole : GoodIn wsX5_form (wsV RX5 175 RX3 yX3_isWhole wsX3_isWhole) := goodIn_app (goodIn_of _ (by decide +kernel)) ggX5_form_X3_isWhole
set_option maxRecDepth 20000 in
theorem ggX5_form_X3_hasPlace : GoodIn wsX5_form wsX3_hasPlace := goodIn_r _ [27, 18, 51, 52, 53, 54] (by decide +kernel) (by decide +kernel)
set_option maxRecDepth 20000 in
theorem gX5_form_X3_hasPlace : GoodIn wsX5_form (wsV RX5 179 RX3 yX3_hasPlace wsX3_hasPlace) := goodIn_app (goodIn_of _ (by decide +kernel)) ggX5_form_X3_hasPlace
set_option maxRecDepth 20000 in
theorem ggX5_form_X3_formStep : GoodIn wsX5_form wsX3_formStep := goodIn_r _ [31, 18, 19, 32, 33, 34, 16, 35, 36, 37, 25, 26, 27, 38, 39, 40, 10, 41, 12, 51, 52, 53, 54, 49, 50] (by decide +kernel) (by decide +kernel)
set_option maxRecDepth 20000 in
theorem gX5_form_X3_formStep : GoodIn wsX5_form (wsV RX5 182 RX3 yX3_formStep wsX3_formStep) := goodIn_app (goodIn_of _ (by decide +kernel)) ggX5_form_X3_formStep
theorem dX5_form_0 : decode cX5_form 0 = .ok (.iload_n 1, 1) := by decide +kernel
theorem dX5_form_1 : decode cX5_form 1 = .ok (.invokestatic 172, 3) := by decide +kernel
theorem dX5_form_4 : decode cX5_form 4 = .ok (.ifCond .eq 14, 3) := by decide +kernel
theorem dX5_form_7 : decode cX5_form 7 = .ok (.aload_n 0, 1) := by decide +kernel
theorem dX5_form_8 : decode cX5_form 8 = .ok (.getfield 10, 3) := by decide +kernel
theorem dX5_form_11 : decode cX5_form 11 = .ok (.iload_n 2, 1) := by decide +kernel
theorem dX5_form_12 : decode cX5_form 12 = .ok (.invokevirtual 144, 3) := by decide +kernel
theorem dX5_form_15 : decode cX5_form 15 = .ok (.ifCond .ne 6, 3) := by decide +kernel
theorem dX5_form_18 : decode cX5_form 18 = .ok (.bipush (-2), 2) := by decide +kernel
theorem dX5_form_20 : decode cX5_form 20 = .ok (.ireturn, 1) := by decide +kernel
theorem dX5_form_21 : decode cX5_form 21 = .ok (.aload_n 0, 1) := by decide +kernel
theorem dX5_form_22 : decode cX5_form 22 = .ok (.getfield 43, 3) := by decide +kernel
theorem dX5_form_25 : decode cX5_form 25 = .ok (.invokevirtual 175, 3) := by decide +kernel
theorem dX5_form_28 : decode cX5_form 28 = .ok (.ifCond .ne 6, 3) := by decide +kernel
theorem dX5_form_31 : decode cX5_form 31 = .ok (.bipush (-3), 2) := by decide +kernel
theorem dX5_form_33 : decode cX5_form 33 = .ok (.ireturn, 1) := by decide +kernel
theorem dX5_form_34 : decode cX5_form 34 = .ok (.aload_n 0, 1) := by decide +kernel
theorem dX5_form_35 : decode cX5_form 35 = .ok (.getfield 43, 3) := by decide +kernel
theorem dX5_form_38 : decode cX5_form 38 = .ok (.iload_n 3, 1) := by decide +kernel
theorem dX5_form_39 : decode cX5_form 39 = .ok (.invokevirtual 179, 3) := by decide +kernel
theorem dX5_form_42 : decode cX5_form 42 = .ok (.ifCond .ne 5, 3) := by decide +kernel
theorem dX5_form_45 : decode cX5_form 45 = .ok (.iconst (-1), 1) := by decide +kernel
theorem dX5_form_46 : decode cX5_form 46 = .ok (.ireturn, 1) := by decide +kernel
theorem dX5_form_47 : decode cX5_form 47 = .ok (.aload_n 0, 1) := by decide +kernel
theorem dX5_form_48 : decode cX5_form 48 = .ok (.getfield 43, 3) := by decide +kernel
theorem dX5_form_51 : decode cX5_form 51 = .ok (.iload_n 1, 1) := by decide +kernel
theorem dX5_form_52 : decode cX5_form 52 = .ok (.iload_n 2, 1) := by decide +kernel
theorem dX5_form_53 : decode cX5_form 53 = .ok (.iload_n 3, 1) := by decide +kernel
theorem dX5_form_54 : decode cX5_form 54 = .ok (.invokevirtual 182, 3) := by decide +kernel
theorem dX5_form_57 : decode cX5_form 57 = .ok (.ireturn, 1) := by decide +kernel
set_option maxRecDepth 20000 in
theorem ggX5_forms_X3_isWhole : GoodIn wsX5_forms wsX3_isWhole := goodIn_r _ [7, 8, 9, 10, 11, 12, 13, 14, 15, 49, 50, 51, 52, 53, 54] (by decide +kernel) (by decide +kernel)
set_option maxRecDepth 20000 in
theorem gX5_forms_X3_isWhole : GoodIn wsX5_forms (wsV RX5 175 RX3 yX3_isWhole wsX3_isWhole) := goodIn_app (goodIn_of _ (by decide +kernel)) ggX5_forms_X3_isWhole
set_option maxRecDepth 20000 in
theorem ggX5_forms_X0_count : GoodIn wsX5_forms wsX0_count := goodIn_r _ [14, 15, 53, 54] (by decide +kernel) (by decide +kernel)
set_option maxRecDepth 20000 in
theorem gX5_forms_X0_count : GoodIn wsX5_forms (wsV RX5 61 RX0 yX0_count wsX0_count) := goodIn_app (goodIn_of _ (by decide +kernel)) ggX5_forms_X0_count
set_option maxRecDepth 20000 in
theorem ggX5_forms_X3_isFormItself : GoodIn wsX5_forms wsX3_isFormItself := goodIn_r _ [20, 8, 21, 22, 23, 6, 24, 9, 25, 26, 27, 28, 29, 30, 31, 32, 33, 34, 35, 36, 13, 37, 15, 49, 50, 51, 52, 53, 54] (by decide +kernel) (by decide +kernel)
set_option maxRecDepth 20000 in
theorem gX5_forms_X3_isFormItself : GoodIn wsX5_forms (wsV RX5 185 RX3 yX3_isFormItself wsX3_isFormItself) := goodIn_app (goodIn_of _ (by decide +kernel)) ggX5_forms_X3_isFormItself
set_option maxRecDepth 20000 in
theorem ggX5_forms_X5_quotient : GoodIn wsX5_forms wsX5_quotient := goodIn_r _ [41] (by decide +kernel) (by decide +kernel)
set_option maxRecDepth 20000 in
theorem gX5_forms_X5_quotient : GoodIn wsX5_forms (va_wsS RX5 188 yX5_quotient wsX5_quotient) := goodIn_app (goodIn_of _ (by decide +kernel)) ggX5_forms_X5_quotient
theorem dX5_forms_0 : decode cX5_forms 0 = .ok (.aload_n 0, 1) := by decide +kernel
theorem dX5_forms_1 : decode cX5_forms 1 = .ok (.getfield 43, 3) := by decide +kernel
theorem dX5_forms_4 : decode cX5_forms 4 = .ok (.invokevirtual 175, 3) := by decide +kernel
theorem dX5_forms_7 : decode cX5_forms 7 = .ok (.ifCond .ne 6, 3) := by decide +kernel
theorem dX5_forms_10 : decode cX5_forms 10 = .ok (.bipush (-3), 2) := by decide +kernel
theorem dX5_forms_12 : decode cX5_forms 12 = .ok (.ireturn, 1) := by decide +kernel
theorem dX5_forms_13 : decode cX5_forms 13 = .ok (.iconst 0, 1) := by decide +kernel
theorem dX5_forms_14 : decode cX5_forms 14 = .ok (.istore_n 1, 1) := by decide +kernel
theorem dX5_forms_15 : decode cX5_forms 15 = .ok (.iconst 0, 1) := by decide +kernel
theorem dX5_forms_16 : decode cX5_forms 16 = .ok (.istore_n 2, 1) := by decide +kernel
theorem dX5_forms_17 : decode cX5_forms 17 = .ok (.iconst 0, 1) := by decide +kernel
theorem dX5_forms_18 : decode cX5_forms 18 = .ok (.istore_n 3, 1) := by decide +kernel
theorem dX5_forms_19 : decode cX5_forms 19 = .ok (.iload_n 3, 1) := by decide +kernel
theorem dX5_forms_20 : decode cX5_forms 20 = .ok (.iconst 3, 1) := by decide +kernel
theorem dX5_forms_21 : decode cX5_forms 21 = .ok (.if_icmp .gt 49, 3) := by decide +kernel
theorem dX5_forms_24 : decode cX5_forms 24 = .ok (.iconst 0, 1) := by decide +kernel
theorem dX5_forms_25 : decode cX5_forms 25 = .ok (.istore 4, 2) := by decide +kernel
theorem dX5_forms_27 : decode cX5_forms 27 = .ok (.iload 4, 2) := by decide +kernel
theorem dX5_forms_29 : decode cX5_forms 29 = .ok (.aload_n 0, 1) := by decide +kernel
theorem dX5_forms_30 : decode cX5_forms 30 = .ok (.getfield 10, 3) := by decide +kernel
theorem dX5_forms_33 : decode cX5_forms 33 = .ok (.invokevirtual 61, 3) := by decide +kernel
theorem dX5_forms_36 : decode cX5_forms 36 = .ok (.if_icmp .ge 28, 3) := by decide +kernel
theorem dX5_forms_39 : decode cX5_forms 39 = .ok (.iinc 1 1, 3) := by decide +kernel
theorem dX5_forms_42 : decode cX5_forms 42 = .ok (.aload_n 0, 1) := by decide +kernel
theorem dX5_forms_43 : decode cX5_forms 43 = .ok (.getfield 43, 3) := by decide +kernel
theorem dX5_forms_46 : decode cX5_forms 46 = .ok (.iload_n 3, 1) := by decide +kernel
theorem dX5_forms_47 : decode cX5_forms 47 = .ok (.iload 4, 2) := by decide +kernel
theorem dX5_forms_49 : decode cX5_forms 49 = .ok (.invokevirtual 185, 3) := by decide +kernel
theorem dX5_forms_52 : decode cX5_forms 52 = .ok (.ifCond .eq 6, 3) := by decide +kernel
theorem dX5_forms_55 : decode cX5_forms 55 = .ok (.iinc 2 1, 3) := by decide +kernel
theorem dX5_forms_58 : decode cX5_forms 58 = .ok (.iinc 4 1, 3) := by decide +kernel
theorem dX5_forms_61 : decode cX5_forms 61 = .ok (.goto (-34), 3) := by decide +kernel
theorem dX5_forms_64 : decode cX5_forms 64 = .ok (.iinc 3 1, 3) := by decide +kernel
theorem dX5_forms_67 : decode cX5_forms 67 = .ok (.goto (-48), 3) := by decide +kernel
theorem dX5_forms_70 : decode cX5_forms 70 = .ok (.iload_n 1, 1) := by decide +kernel
theorem dX5_forms_71 : decode cX5_forms 71 = .ok (.iload_n 2, 1) := by decide +kernel
theorem dX5_forms_72 : decode cX5_forms 72 = .ok (.invokestatic 188, 3) := by decide +kernel
theorem dX5_forms_75 : decode cX5_forms 75 = .ok (.ireturn, 1) := by decide +kernel
set_option maxRecDepth 20000 in
theorem ggX5_table_X3_isWhole : GoodIn wsX5_table wsX3_isWhole := goodIn_r _ [6, 7, 8, 9, 10, 11, 12, 13, 14, 41, 42, 43, 44, 45, 46] (by decide +kernel) (by decide +kernel)
set_option maxRecDepth 20000 in
theorem gX5_table_X3_isWhole : GoodIn wsX5_table (wsV RX5 175 RX3 yX3_isWhole wsX3_isWhole) := goodIn_app (goodIn_of _ (by decide +kernel)) ggX5_table_X3_isWhole
set_option maxRecDepth 20000 in
theorem ggX5_table_X3_hasPlace : GoodIn wsX5_table wsX3_hasPlace := goodIn_r _ [18, 7, 41, 42, 43, 44] (by decide +kernel) (by decide +kernel)
set_option maxRecDepth 20000 in
theorem gX5_table_X3_hasPlace : GoodIn wsX5_table (wsV RX5 179 RX3 yX3_hasPlace wsX3_hasPlace) := goodIn_app (goodIn_of _ (by decide +kernel)) ggX5_table_X3_hasPlace
set_option maxRecDepth 20000 in
theorem ggX5_table_X3_at : GoodIn wsX5_table wsX3_at := goodIn_r _ [22, 23, 24, 16, 17, 5, 18, 7, 41, 42, 43, 44] (by decide +kernel) (by decide +kernel)
set_option maxRecDepth 20000 in
theorem gX5_table_X3_at : GoodIn wsX5_table (wsV RX5 191 RX3 yX3_at wsX3_at) := goodIn_app (goodIn_of _ (by decide +kernel)) ggX5_table_X3_at
set_option maxRecDepth 20000 in
theorem ggX5_table_X3_formStep : GoodIn wsX5_table wsX3_formStep := goodIn_r _ [28, 7, 8, 29, 20, 21, 5, 22, 23, 24, 16, 17, 18, 30, 31, 32, 12, 33, 14, 41, 42, 43, 44, 45, 46] (by decide +kernel) (by decide +kernel)
set_option maxRecDepth 20000 in
theorem gX5_table_X3_formStep : GoodIn wsX5_table (wsV RX5 182 RX3 yX3_formStep wsX3_formStep) := goodIn_app (goodIn_of _ (by decide +kernel)) ggX5_table_X3_formStep
theorem dX5_table_0 : decode cX5_table 0 = .ok (.aload_n 0, 1) := by decide +kernel
theorem dX5_table_1 : decode cX5_table 1 = .ok (.getfield 43, 3) := by decide +kernel
theorem dX5_table_4 : decode cX5_table 4 = .ok (.invokevirtual 175, 3) := by decide +kernel
theorem dX5_table_7 : decode cX5_table 7 = .ok (.ifCond .ne 6, 3) := by decide +kernel
theorem dX5_table_10 : decode cX5_table 10 = .ok (.bipush (-3), 2) := by decide +kernel
theorem dX5_table_12 : decode cX5_table 12 = .ok (.ireturn, 1) := by decide +kernel
theorem dX5_table_13 : decode cX5_table 13 = .ok (.aload_n 0, 1) := by decide +kernel
theorem dX5_table_14 : decode cX5_table 14 = .ok (.getfield 43, 3) := by decide +kernel
theorem dX5_table_17 : decode cX5_table 17 = .ok (.iload_n 1, 1) := by decide +kernel
theorem dX5_table_18 : decode cX5_table 18 = .ok (.invokevirtual 179, 3) := by decide +kernel
theorem dX5_table_21 : decode cX5_table 21 = .ok (.ifCond .eq 14, 3) := by decide +kernel
theorem dX5_table_24 : decode cX5_table 24 = .ok (.aload_n 0, 1) := by decide +kernel
theorem dX5_table_25 : decode cX5_table 25 = .ok (.getfield 43, 3) := by decide +kernel
theorem dX5_table_28 : decode cX5_table 28 = .ok (.iload_n 2, 1) := by decide +kernel
theorem dX5_table_29 : decode cX5_table 29 = .ok (.invokevirtual 179, 3) := by decide +kernel
theorem dX5_table_32 : decode cX5_table 32 = .ok (.ifCond .ne 5, 3) := by decide +kernel
theorem dX5_table_35 : decode cX5_table 35 = .ok (.iconst (-1), 1) := by decide +kernel
theorem dX5_table_36 : decode cX5_table 36 = .ok (.ireturn, 1) := by decide +kernel
theorem dX5_table_37 : decode cX5_table 37 = .ok (.aload_n 0, 1) := by decide +kernel
theorem dX5_table_38 : decode cX5_table 38 = .ok (.getfield 43, 3) := by decide +kernel
theorem dX5_table_41 : decode cX5_table 41 = .ok (.iconst 0, 1) := by decide +kernel
theorem dX5_table_42 : decode cX5_table 42 = .ok (.aload_n 0, 1) := by decide +kernel
theorem dX5_table_43 : decode cX5_table 43 = .ok (.getfield 43, 3) := by decide +kernel
theorem dX5_table_46 : decode cX5_table 46 = .ok (.iconst 1, 1) := by decide +kernel
theorem dX5_table_47 : decode cX5_table 47 = .ok (.aload_n 0, 1) := by decide +kernel
theorem dX5_table_48 : decode cX5_table 48 = .ok (.getfield 43, 3) := by decide +kernel
theorem dX5_table_51 : decode cX5_table 51 = .ok (.iconst 0, 1) := by decide +kernel
theorem dX5_table_52 : decode cX5_table 52 = .ok (.invokevirtual 191, 3) := by decide +kernel
theorem dX5_table_55 : decode cX5_table 55 = .ok (.iload_n 1, 1) := by decide +kernel
theorem dX5_table_56 : decode cX5_table 56 = .ok (.invokevirtual 182, 3) := by decide +kernel
theorem dX5_table_59 : decode cX5_table 59 = .ok (.iload_n 2, 1) := by decide +kernel
theorem dX5_table_60 : decode cX5_table 60 = .ok (.invokevirtual 182, 3) := by decide +kernel
theorem dX5_table_63 : decode cX5_table 63 = .ok (.ireturn, 1) := by decide +kernel
set_option maxRecDepth 20000 in
theorem ggX5_unlike_X3_isWhole : GoodIn wsX5_unlike wsX3_isWhole := goodIn_r _ [6, 7, 8, 9, 10, 11, 12, 13, 14, 39, 40, 41, 42, 43, 44] (by decide +kernel) (by decide +kernel)
set_option maxRecDepth 20000 in
theorem gX5_unlike_X3_isWhole : GoodIn wsX5_unlike (wsV RX5 175 RX3 yX3_isWhole wsX3_isWhole) := goodIn_app (goodIn_of _ (by decide +kernel)) ggX5_unlike_X3_isWhole
set_option maxRecDepth 20000 in
theorem ggX5_unlike_X3_hasUnlikeIntervals : GoodIn wsX5_unlike wsX3_hasUnlikeIntervals := goodIn_r _ [18, 7, 8, 19, 20, 21, 5, 22, 23, 24, 25, 26, 27, 28, 29, 30, 12, 31, 14, 39, 40, 41, 42, 43, 44] (by decide +kernel) (by decide +kernel)
set_option maxRecDepth 20000 in
theorem gX5_unlike_X3_hasUnlikeIntervals : GoodIn wsX5_unlike (wsV RX5 192 RX3 yX3_hasUnlikeIntervals wsX3_hasUnlikeIntervals) := goodIn_app (goodIn_of _ (by decide +kernel)) ggX5_unlike_X3_hasUnlikeIntervals
theorem dX5_unlike_0 : decode cX5_unlike 0 = .ok (.aload_n 0, 1) := by decide +kernel
theorem dX5_unlike_1 : decode cX5_unlike 1 = .ok (.getfield 43, 3) := by decide +kernel
theorem dX5_unlike_4 : decode cX5_unlike 4 = .ok (.invokevirtual 175, 3) := by decide +kernel
theorem dX5_unlike_7 : decode cX5_unlike 7 = .ok (.ifCond .ne 6, 3) := by decide +kernel
theorem dX5_unlike_10 : decode cX5_unlike 10 = .ok (.bipush (-3), 2) := by decide +kernel
theorem dX5_unlike_12 : decode cX5_unlike 12 = .ok (.ireturn, 1) := by decide +kernel
theorem dX5_unlike_13 : decode cX5_unlike 13 = .ok (.aload_n 0, 1) := by decide +kernel
theorem dX5_unlike_14 : decode cX5_unlike 14 = .ok (.getfield 43, 3) := by decide +kernel
theorem dX5_unlike_17 : decode cX5_unlike 17 = .ok (.invokevirtual 192, 3) := by decide +kernel
theorem dX5_unlike_20 : decode cX5_unlike 20 = .ok (.ifCond .eq 7, 3) := by decide +kernel
theorem dX5_unlike_23 : decode cX5_unlike 23 = .ok (.iconst 1, 1) := by decide +kernel
theorem dX5_unlike_24 : decode cX5_unlike 24 = .ok (.goto 4, 3) := by decide +kernel
theorem dX5_unlike_27 : decode cX5_unlike 27 = .ok (.iconst 0, 1) := by decide +kernel
theorem dX5_unlike_28 : decode cX5_unlike 28 = .ok (.ireturn, 1) := by decide +kernel
set_option maxRecDepth 20000 in
theorem ggX5_rows_X0_count : GoodIn wsX5_rows wsX0_count := goodIn_r _ [7, 8, 34, 35] (by decide +kernel) (by decide +kernel)
set_option maxRecDepth 20000 in
theorem gX5_rows_X0_count : GoodIn wsX5_rows (wsV RX5 61 RX0 yX0_count wsX0_count) := goodIn_app (goodIn_of _ (by decide +kernel)) ggX5_rows_X0_count
set_option maxRecDepth 20000 in
theorem ggX5_rows_X4_countFor : GoodIn wsX5_rows wsX4_countFor := goodIn_r _ [13, 14, 15, 16, 12, 17, 18, 19, 20, 21, 22, 23, 24, 25, 26, 36] (by decide +kernel) (by decide +kernel)
set_option maxRecDepth 20000 in
theorem gX5_rows_X4_countFor : GoodIn wsX5_rows (wsV RX5 195 RX4 yX4_countFor wsX4_countFor) := goodIn_app (goodIn_of _ (by decide +kernel)) ggX5_rows_X4_countFor
theorem dX5_rows_0 : decode cX5_rows 0 = .ok (.aload_n 0, 1) := by decide +kernel
theorem dX5_rows_1 : decode cX5_rows 1 = .ok (.getfield 50, 3) := by decide +kernel
theorem dX5_rows_4 : decode cX5_rows 4 = .ok (.aload_n 0, 1) := by decide +kernel
theorem dX5_rows_5 : decode cX5_rows 5 = .ok (.getfield 10, 3) := by decide +kernel
theorem dX5_rows_8 : decode cX5_rows 8 = .ok (.invokevirtual 61, 3) := by decide +kernel
theorem dX5_rows_11 : decode cX5_rows 11 = .ok (.invokevirtual 195, 3) := by decide +kernel
theorem dX5_rows_14 : decode cX5_rows 14 = .ok (.ireturn, 1) := by decide +kernel
set_option maxRecDepth 20000 in
theorem ggX5_fills_X5_isFormKind : GoodIn wsX5_fills wsX5_isFormKind := goodIn_r _ [6] (by decide +kernel) (by decide +kernel)
set_option maxRecDepth 20000 in
theorem gX5_fills_X5_isFormKind : GoodIn wsX5_fills (va_wsS RX5 172 yX5_isFormKind wsX5_isFormKind) := goodIn_app (goodIn_of _ (by decide +kernel)) ggX5_fills_X5_isFormKind
set_option maxRecDepth 20000 in
theorem ggX5_fills_X3_isWhole : GoodIn wsX5_fills wsX3_isWhole := goodIn_r _ [11, 12, 13, 14, 15, 16, 17, 18, 19, 53, 54, 55, 56, 57, 58] (by decide +kernel) (by decide +kernel)
set_option maxRecDepth 20000 in
theorem gX5_fills_X3_isWhole : GoodIn wsX5_fills (wsV RX5 175 RX3 yX3_isWhole wsX3_isWhole) := goodIn_app (goodIn_of _ (by decide +kernel)) ggX5_fills_X3_isWhole
set_option maxRecDepth 20000 in
theorem ggX5_fills_X0_count : GoodIn wsX5_fills wsX0_count := goodIn_r _ [18, 19, 57, 58] (by decide +kernel) (by decide +kernel)
set_option maxRecDepth 20000 in
theorem gX5_fills_X0_count : GoodIn wsX5_fills (wsV RX5 61 RX0 yX0_count wsX0_count) := goodIn_app (goodIn_of _ (by decide +kernel)) ggX5_fills_X0_count
set_option maxRecDepth 20000 in
theorem ggX5_fills_X3_piece : GoodIn wsX5_fills wsX3_piece := goodIn_r _ [24, 25, 26, 27, 10, 28, 29, 30, 31, 32, 33, 12, 53, 54, 55, 56] (by decide +kernel) (by decide +kernel)
set_option maxRecDepth 20000 in
theorem gX5_fills_X3_piece : GoodIn wsX5_fills (wsV RX5 198 RX3 yX3_piece wsX3_piece) := goodIn_app (goodIn_of _ (by decide +kernel)) ggX5_fills_X3_piece
set_option maxRecDepth 20000 in
theorem ggX5_fills_X3_formPiece : GoodIn wsX5_fills wsX3_formPiece := goodIn_r _ [37, 38, 39, 40, 10, 41, 12, 13, 25, 26, 27, 28, 29, 30, 31, 32, 33, 42, 43, 44, 17, 45, 19, 53, 54, 55, 56, 57, 58] (by decide +kernel) (by decide +kernel)
set_option maxRecDepth 20000 in
theorem gX5_fills_X3_formPiece : GoodIn wsX5_fills (wsV RX5 201 RX3 yX3_formPiece wsX3_formPiece) := goodIn_app (goodIn_of _ (by decide +kernel)) ggX5_fills_X3_formPiece
theorem dX5_fills_0 : decode cX5_fills 0 = .ok (.iload_n 1, 1) := by decide +kernel
theorem dX5_fills_1 : decode cX5_fills 1 = .ok (.invokestatic 172, 3) := by decide +kernel
theorem dX5_fills_4 : decode cX5_fills 4 = .ok (.ifCond .ne 6, 3) := by decide +kernel
theorem dX5_fills_7 : decode cX5_fills 7 = .ok (.bipush (-2), 2) := by decide +kernel
theorem dX5_fills_9 : decode cX5_fills 9 = .ok (.ireturn, 1) := by decide +kernel
theorem dX5_fills_10 : decode cX5_fills 10 = .ok (.aload_n 0, 1) := by decide +kernel
theorem dX5_fills_11 : decode cX5_fills 11 = .ok (.getfield 43, 3) := by decide +kernel
theorem dX5_fills_14 : decode cX5_fills 14 = .ok (.invokevirtual 175, 3) := by decide +kernel
theorem dX5_fills_17 : decode cX5_fills 17 = .ok (.ifCond .eq 15, 3) := by decide +kernel
theorem dX5_fills_20 : decode cX5_fills 20 = .ok (.aload_n 0, 1) := by decide +kernel
theorem dX5_fills_21 : decode cX5_fills 21 = .ok (.getfield 10, 3) := by decide +kernel
theorem dX5_fills_24 : decode cX5_fills 24 = .ok (.invokevirtual 61, 3) := by decide +kernel
theorem dX5_fills_27 : decode cX5_fills 27 = .ok (.iconst 2, 1) := by decide +kernel
theorem dX5_fills_28 : decode cX5_fills 28 = .ok (.irem, 1) := by decide +kernel
theorem dX5_fills_29 : decode cX5_fills 29 = .ok (.ifCond .eq 6, 3) := by decide +kernel
theorem dX5_fills_32 : decode cX5_fills 32 = .ok (.bipush (-3), 2) := by decide +kernel
theorem dX5_fills_34 : decode cX5_fills 34 = .ok (.ireturn, 1) := by decide +kernel
theorem dX5_fills_35 : decode cX5_fills 35 = .ok (.aload_n 0, 1) := by decide +kernel
theorem dX5_fills_36 : decode cX5_fills 36 = .ok (.getfield 10, 3) := by decide +kernel
theorem dX5_fills_39 : decode cX5_fills 39 = .ok (.invokevirtual 61, 3) := by decide +kernel
theorem dX5_fills_42 : decode cX5_fills 42 = .ok (.iconst 2, 1) := by decide +kernel
theorem dX5_fills_43 : decode cX5_fills 43 = .ok (.idiv, 1) := by decide +kernel
theorem dX5_fills_44 : decode cX5_fills 44 = .ok (.istore_n 3, 1) := by decide +kernel
theorem dX5_fills_45 : decode cX5_fills 45 = .ok (.aload_n 0, 1) := by decide +kernel
theorem dX5_fills_46 : decode cX5_fills 46 = .ok (.getfield 43, 3) := by decide +kernel
theorem dX5_fills_49 : decode cX5_fills 49 = .ok (.iconst 0, 1) := by decide +kernel
theorem dX5_fills_50 : decode cX5_fills 50 = .ok (.iload_n 3, 1) := by decide +kernel
theorem dX5_fills_51 : decode cX5_fills 51 = .ok (.invokevirtual 198, 3) := by decide +kernel
theorem dX5_fills_54 : decode cX5_fills 54 = .ok (.istore 4, 2) := by decide +kernel
theorem dX5_fills_56 : decode cX5_fills 56 = .ok (.iconst 0, 1) := by decide +kernel
theorem dX5_fills_57 : decode cX5_fills 57 = .ok (.istore 5, 2) := by decide +kernel
theorem dX5_fills_59 : decode cX5_fills 59 = .ok (.iconst 0, 1) := by decide +kernel
theorem dX5_fills_60 : decode cX5_fills 60 = .ok (.istore 6, 2) := by decide +kernel
theorem dX5_fills_62 : decode cX5_fills 62 = .ok (.iload 6, 2) := by decide +kernel
theorem dX5_fills_64 : decode cX5_fills 64 = .ok (.aload_n 0, 1) := by decide +kernel
theorem dX5_fills_65 : decode cX5_fills 65 = .ok (.getfield 10, 3) := by decide +kernel
theorem dX5_fills_68 : decode cX5_fills 68 = .ok (.invokevirtual 61, 3) := by decide +kernel
theorem dX5_fills_71 : decode cX5_fills 71 = .ok (.if_icmp .ge 39, 3) := by decide +kernel
theorem dX5_fills_74 : decode cX5_fills 74 = .ok (.aload_n 0, 1) := by decide +kernel
theorem dX5_fills_75 : decode cX5_fills 75 = .ok (.getfield 43, 3) := by decide +kernel
theorem dX5_fills_78 : decode cX5_fills 78 = .ok (.iload_n 1, 1) := by decide +kernel
theorem dX5_fills_79 : decode cX5_fills 79 = .ok (.iload 6, 2) := by decide +kernel
theorem dX5_fills_81 : decode cX5_fills 81 = .ok (.iconst 0, 1) := by decide +kernel
theorem dX5_fills_82 : decode cX5_fills 82 = .ok (.iload_n 3, 1) := by decide +kernel
theorem dX5_fills_83 : decode cX5_fills 83 = .ok (.invokevirtual 201, 3) := by decide +kernel
theorem dX5_fills_86 : decode cX5_fills 86 = .ok (.iload 4, 2) := by decide +kernel
theorem dX5_fills_88 : decode cX5_fills 88 = .ok (.iand, 1) := by decide +kernel
theorem dX5_fills_89 : decode cX5_fills 89 = .ok (.ifCond .ne 15, 3) := by decide +kernel
theorem dX5_fills_92 : decode cX5_fills 92 = .ok (.iload 5, 2) := by decide +kernel
theorem dX5_fills_94 : decode cX5_fills 94 = .ok (.iload_n 2, 1) := by decide +kernel
theorem dX5_fills_95 : decode cX5_fills 95 = .ok (.if_icmp .ne 6, 3) := by decide +kernel
theorem dX5_fills_98 : decode cX5_fills 98 = .ok (.iload 6, 2) := by decide +kernel
theorem dX5_fills_100 : decode cX5_fills 100 = .ok (.ireturn, 1) := by decide +kernel
theorem dX5_fills_101 : decode cX5_fills 101 = .ok (.iinc 5 1, 3) := by decide +kernel
theorem dX5_fills_104 : decode cX5_fills 104 = .ok (.iinc 6 1, 3) := by decide +kernel
theorem dX5_fills_107 : decode cX5_fills 107 = .ok (.goto (-45), 3) := by decide +kernel
theorem dX5_fills_110 : decode cX5_fills 110 = .ok (.iconst (-1), 1) := by decide +kernel
theorem dX5_fills_111 : decode cX5_fills 111 = .ok (.ireturn, 1) := by decide +kernel
set_option maxRecDepth 20000 in
theorem ggX5_derived_X5_isClassKind : GoodIn wsX5_derived wsX5_isClassKind := goodIn_r _ [6] (by decide +kernel) (by decide +kernel)
set_option maxRecDepth 20000 in
theorem gX5_derived_X5_isClassKind : GoodIn wsX5_derived (va_wsS RX5 79 yX5_isClassKind wsX5_isClassKind) := goodIn_app (goodIn_of _ (by decide +kernel)) ggX5_derived_X5_isClassKind
set_option maxRecDepth 20000 in
theorem ggX5_derived_X0_count : GoodIn wsX5_derived wsX0_count := goodIn_r _ [11, 12, 72, 73] (by decide +kernel) (by decide +kernel)
set_option maxRecDepth 20000 in
theorem gX5_derived_X0_count : GoodIn wsX5_derived (wsV RX5 61 RX0 yX0_count wsX0_count) := goodIn_app (goodIn_of _ (by decide +kernel)) ggX5_derived_X0_count
set_option maxRecDepth 20000 in
theorem ggX5_derived_X3_isWhole : GoodIn wsX5_derived wsX3_isWhole := goodIn_r _ [17, 18, 19, 20, 8, 9, 10, 11, 12, 74, 75, 76, 77, 72, 73] (by decide +kernel) (by decide +kernel)
set_option maxRecDepth 20000 in
theorem gX5_derived_X3_isWhole : GoodIn wsX5_derived (wsV RX5 175 RX3 yX3_isWhole wsX3_isWhole) := goodIn_app (goodIn_of _ (by decide +kernel)) ggX5_derived_X3_isWhole
set_option maxRecDepth 20000 in
theorem ggX5_derived_X3_piece : GoodIn wsX5_derived wsX3_piece := goodIn_r _ [24, 25, 26, 27, 16, 28, 29, 30, 31, 32, 33, 18, 74, 75, 76, 77] (by decide +kernel) (by decide +kernel)
set_option maxRecDepth 20000 in
theorem gX5_derived_X3_piece : GoodIn wsX5_derived (wsV RX5 198 RX3 yX3_piece wsX3_piece) := goodIn_app (goodIn_of _ (by decide +kernel)) ggX5_derived_X3_piece
set_option maxRecDepth 20000 in
theorem ggX5_derived_X0_leastOf : GoodIn wsX5_derived wsX0_leastOf := goodIn_r _ [37, 12, 38, 39, 40, 41, 42, 43, 44, 10, 45, 46, 5, 47, 48, 49, 50, 51, 52, 53, 54, 55, 56, 57, 58, 59, 60, 61, 62, 63, 64, 72, 73] (by decide +kernel) (by decide +kernel)
set_option maxRecDepth 20000 in
theorem gX5_derived_X0_leastOf : GoodIn wsX5_derived (wsV RX5 82 RX0 yX0_leastOf wsX0_leastOf) := goodIn_app (goodIn_of _ (by decide +kernel)) ggX5_derived_X0_leastOf
theorem dX5_derived_0 : decode cX5_derived 0 = .ok (.iload_n 2, 1) := by decide +kernel
theorem dX5_derived_1 : decode cX5_derived 1 = .ok (.invokestatic 79, 3) := by decide +kernel
theorem dX5_derived_4 : decode cX5_derived 4 = .ok (.ifCond .eq 31, 3) := by decide +kernel
theorem dX5_derived_7 : decode cX5_derived 7 = .ok (.iload_n 1, 1) := by decide +kernel
theorem dX5_derived_8 : decode cX5_derived 8 = .ok (.iconst 1, 1) := by decide +kernel
theorem dX5_derived_9 : decode cX5_derived 9 = .ok (.if_icmp .lt 26, 3) := by decide +kernel
theorem dX5_derived_12 : decode cX5_derived 12 = .ok (.iload_n 1, 1) := by decide +kernel
theorem dX5_derived_13 : decode cX5_derived 13 = .ok (.aload_n 0, 1) := by decide +kernel
theorem dX5_derived_14 : decode cX5_derived 14 = .ok (.getfield 10, 3) := by decide +kernel
theorem dX5_derived_17 : decode cX5_derived 17 = .ok (.invokevirtual 61, 3) := by decide +kernel
theorem dX5_derived_20 : decode cX5_derived 20 = .ok (.if_icmp .gt 15, 3) := by decide +kernel
theorem dX5_derived_23 : decode cX5_derived 23 = .ok (.aload_n 0, 1) := by decide +kernel
theorem dX5_derived_24 : decode cX5_derived 24 = .ok (.getfield 10, 3) := by decide +kernel
theorem dX5_derived_27 : decode cX5_derived 27 = .ok (.invokevirtual 61, 3) := by decide +kernel
theorem dX5_derived_30 : decode cX5_derived 30 = .ok (.iload_n 1, 1) := by decide +kernel
theorem dX5_derived_31 : decode cX5_derived 31 = .ok (.irem, 1) := by decide +kernel
theorem dX5_derived_32 : decode cX5_derived 32 = .ok (.ifCond .eq 6, 3) := by decide +kernel
theorem dX5_derived_35 : decode cX5_derived 35 = .ok (.bipush (-2), 2) := by decide +kernel
theorem dX5_derived_37 : decode cX5_derived 37 = .ok (.ireturn, 1) := by decide +kernel
theorem dX5_derived_38 : decode cX5_derived 38 = .ok (.aload_n 0, 1) := by decide +kernel
theorem dX5_derived_39 : decode cX5_derived 39 = .ok (.getfield 43, 3) := by decide +kernel
theorem dX5_derived_42 : decode cX5_derived 42 = .ok (.invokevirtual 175, 3) := by decide +kernel
theorem dX5_derived_45 : decode cX5_derived 45 = .ok (.ifCond .ne 6, 3) := by decide +kernel
theorem dX5_derived_48 : decode cX5_derived 48 = .ok (.bipush (-3), 2) := by decide +kernel
theorem dX5_derived_50 : decode cX5_derived 50 = .ok (.ireturn, 1) := by decide +kernel
theorem dX5_derived_51 : decode cX5_derived 51 = .ok (.aload_n 0, 1) := by decide +kernel
theorem dX5_derived_52 : decode cX5_derived 52 = .ok (.getfield 10, 3) := by decide +kernel
theorem dX5_derived_55 : decode cX5_derived 55 = .ok (.aload_n 0, 1) := by decide +kernel
theorem dX5_derived_56 : decode cX5_derived 56 = .ok (.getfield 43, 3) := by decide +kernel
theorem dX5_derived_59 : decode cX5_derived 59 = .ok (.iconst 0, 1) := by decide +kernel
theorem dX5_derived_60 : decode cX5_derived 60 = .ok (.iload_n 1, 1) := by decide +kernel
theorem dX5_derived_61 : decode cX5_derived 61 = .ok (.invokevirtual 198, 3) := by decide +kernel
theorem dX5_derived_64 : decode cX5_derived 64 = .ok (.iload_n 2, 1) := by decide +kernel
theorem dX5_derived_65 : decode cX5_derived 65 = .ok (.invokevirtual 82, 3) := by decide +kernel
theorem dX5_derived_68 : decode cX5_derived 68 = .ok (.istore_n 3, 1) := by decide +kernel
theorem dX5_derived_69 : decode cX5_derived 69 = .ok (.iload_n 1, 1) := by decide +kernel
theorem dX5_derived_70 : decode cX5_derived 70 = .ok (.istore 4, 2) := by decide +kernel
theorem dX5_derived_72 : decode cX5_derived 72 = .ok (.iload 4, 2) := by decide +kernel
theorem dX5_derived_74 : decode cX5_derived 74 = .ok (.aload_n 0, 1) := by decide +kernel
theorem dX5_derived_75 : decode cX5_derived 75 = .ok (.getfield 10, 3) := by decide +kernel
theorem dX5_derived_78 : decode cX5_derived 78 = .ok (.invokevirtual 61, 3) := by decide +kernel
theorem dX5_derived_81 : decode cX5_derived 81 = .ok (.if_icmp .ge 36, 3) := by decide +kernel
theorem dX5_derived_84 : decode cX5_derived 84 = .ok (.aload_n 0, 1) := by decide +kernel
theorem dX5_derived_85 : decode cX5_derived 85 = .ok (.getfield 10, 3) := by decide +kernel
theorem dX5_derived_88 : decode cX5_derived 88 = .ok (.aload_n 0, 1) := by decide +kernel
theorem dX5_derived_89 : decode cX5_derived 89 = .ok (.getfield 43, 3) := by decide +kernel
theorem dX5_derived_92 : decode cX5_derived 92 = .ok (.iload 4, 2) := by decide +kernel
theorem dX5_derived_94 : decode cX5_derived 94 = .ok (.iload_n 1, 1) := by decide +kernel
theorem dX5_derived_95 : decode cX5_derived 95 = .ok (.invokevirtual 198, 3) := by decide +kernel
theorem dX5_derived_98 : decode cX5_derived 98 = .ok (.iload_n 2, 1) := by decide +kernel
theorem dX5_derived_99 : decode cX5_derived 99 = .ok (.invokevirtual 82, 3) := by decide +kernel
theorem dX5_derived_102 : decode cX5_derived 102 = .ok (.iload_n 3, 1) := by decide +kernel
theorem dX5_derived_103 : decode cX5_derived 103 = .ok (.if_icmp .eq 5, 3) := by decide +kernel
theorem dX5_derived_106 : decode cX5_derived 106 = .ok (.iconst 0, 1) := by decide +kernel
theorem dX5_derived_107 : decode cX5_derived 107 = .ok (.ireturn, 1) := by decide +kernel
theorem dX5_derived_108 : decode cX5_derived 108 = .ok (.iload 4, 2) := by decide +kernel
theorem dX5_derived_110 : decode cX5_derived 110 = .ok (.iload_n 1, 1) := by decide +kernel
theorem dX5_derived_111 : decode cX5_derived 111 = .ok (.iadd, 1) := by decide +kernel
theorem dX5_derived_112 : decode cX5_derived 112 = .ok (.istore 4, 2) := by decide +kernel
theorem dX5_derived_114 : decode cX5_derived 114 = .ok (.goto (-42), 3) := by decide +kernel
theorem dX5_derived_117 : decode cX5_derived 117 = .ok (.iconst 1, 1) := by decide +kernel
theorem dX5_derived_118 : decode cX5_derived 118 = .ok (.ireturn, 1) := by decide +kernel
set_option maxRecDepth 20000 in
theorem ggX5_kept_X5_isFormKind : GoodIn wsX5_kept wsX5_isFormKind := goodIn_r _ [6] (by decide +kernel) (by decide +kernel)
set_option maxRecDepth 20000 in
theorem gX5_kept_X5_isFormKind : GoodIn wsX5_kept (va_wsS RX5 172 yX5_isFormKind wsX5_isFormKind) := goodIn_app (goodIn_of _ (by decide +kernel)) ggX5_kept_X5_isFormKind
set_option maxRecDepth 20000 in
theorem ggX5_kept_X0_hasStep : GoodIn wsX5_kept wsX0_hasStep := goodIn_r _ [11, 12, 68, 69] (by decide +kernel) (by decide +kernel)
set_option maxRecDepth 20000 in
theorem gX5_kept_X0_hasStep : GoodIn wsX5_kept (wsV RX5 144 RX0 yX0_hasStep wsX0_hasStep) := goodIn_app (goodIn_of _ (by decide +kernel)) ggX5_kept_X0_hasStep
set_option maxRecDepth 20000 in
theorem ggX5_kept_X0_count : GoodIn wsX5_kept wsX0_count := goodIn_r _ [16, 12, 68, 69] (by decide +kernel) (by decide +kernel)
set_option maxRecDepth 20000 in
theorem gX5_kept_X0_count : GoodIn wsX5_kept (wsV RX5 61 RX0 yX0_count wsX0_count) := goodIn_app (goodIn_of _ (by decide +kernel)) ggX5_kept_X0_count
set_option maxRecDepth 20000 in
theorem ggX5_kept_X3_isWhole : GoodIn wsX5_kept wsX3_isWhole := goodIn_r _ [21, 22, 23, 24, 14, 15, 10, 16, 12, 70, 71, 72, 73, 68, 69] (by decide +kernel) (by decide +kernel)
set_option maxRecDepth 20000 in
theorem gX5_kept_X3_isWhole : GoodIn wsX5_kept (wsV RX5 175 RX3 yX3_isWhole wsX3_isWhole) := goodIn_app (goodIn_of _ (by decide +kernel)) ggX5_kept_X3_isWhole
set_option maxRecDepth 20000 in
theorem ggX5_kept_X3_piece : GoodIn wsX5_kept wsX3_piece := goodIn_r _ [28, 29, 30, 31, 20, 32, 33, 34, 35, 36, 37, 22, 70, 71, 72, 73] (by decide +kernel) (by decide +kernel)
set_option maxRecDepth 20000 in
theorem gX5_kept_X3_piece : GoodIn wsX5_kept (wsV RX5 198 RX3 yX3_piece wsX3_piece) := goodIn_app (goodIn_of _ (by decide +kernel)) ggX5_kept_X3_piece
set_option maxRecDepth 20000 in
theorem ggX5_kept_X3_formHasPiece : GoodIn wsX5_kept wsX3_formHasPiece := goodIn_r _ [41, 22, 42, 43, 44, 45, 46, 47, 48, 49, 50, 51, 20, 52, 53, 54, 55, 56, 23, 29, 30, 31, 32, 33, 34, 35, 36, 37, 57, 58, 59, 10, 60, 12, 70, 71, 72, 73, 68, 69] (by decide +kernel) (by decide +kernel)
set_option maxRecDepth 20000 in
theorem gX5_kept_X3_formHasPiece : GoodIn wsX5_kept (wsV RX5 205 RX3 yX3_formHasPiece wsX3_formHasPiece) := goodIn_app (goodIn_of _ (by decide +kernel)) ggX5_kept_X3_formHasPiece
theorem dX5_kept_0 : decode cX5_kept 0 = .ok (.iload_n 1, 1) := by decide +kernel
theorem dX5_kept_1 : decode cX5_kept 1 = .ok (.invokestatic 172, 3) := by decide +kernel
theorem dX5_kept_4 : decode cX5_kept 4 = .ok (.ifCond .eq 30, 3) := by decide +kernel
theorem dX5_kept_7 : decode cX5_kept 7 = .ok (.aload_n 0, 1) := by decide +kernel
theorem dX5_kept_8 : decode cX5_kept 8 = .ok (.getfield 10, 3) := by decide +kernel
theorem dX5_kept_11 : decode cX5_kept 11 = .ok (.iload_n 2, 1) := by decide +kernel
theorem dX5_kept_12 : decode cX5_kept 12 = .ok (.invokevirtual 144, 3) := by decide +kernel
theorem dX5_kept_15 : decode cX5_kept 15 = .ok (.ifCond .eq 19, 3) := by decide +kernel
theorem dX5_kept_18 : decode cX5_kept 18 = .ok (.iload_n 3, 1) := by decide +kernel
theorem dX5_kept_19 : decode cX5_kept 19 = .ok (.iconst 1, 1) := by decide +kernel
theorem dX5_kept_20 : decode cX5_kept 20 = .ok (.if_icmp .lt 14, 3) := by decide +kernel
theorem dX5_kept_23 : decode cX5_kept 23 = .ok (.iload_n 3, 1) := by decide +kernel
theorem dX5_kept_24 : decode cX5_kept 24 = .ok (.aload_n 0, 1) := by decide +kernel
theorem dX5_kept_25 : decode cX5_kept 25 = .ok (.getfield 10, 3) := by decide +kernel
theorem dX5_kept_28 : decode cX5_kept 28 = .ok (.invokevirtual 61, 3) := by decide +kernel
theorem dX5_kept_31 : decode cX5_kept 31 = .ok (.if_icmp .le 6, 3) := by decide +kernel
theorem dX5_kept_34 : decode cX5_kept 34 = .ok (.bipush (-2), 2) := by decide +kernel
theorem dX5_kept_36 : decode cX5_kept 36 = .ok (.ireturn, 1) := by decide +kernel
theorem dX5_kept_37 : decode cX5_kept 37 = .ok (.aload_n 0, 1) := by decide +kernel
theorem dX5_kept_38 : decode cX5_kept 38 = .ok (.getfield 43, 3) := by decide +kernel
theorem dX5_kept_41 : decode cX5_kept 41 = .ok (.invokevirtual 175, 3) := by decide +kernel
theorem dX5_kept_44 : decode cX5_kept 44 = .ok (.ifCond .ne 6, 3) := by decide +kernel
theorem dX5_kept_47 : decode cX5_kept 47 = .ok (.bipush (-3), 2) := by decide +kernel
theorem dX5_kept_49 : decode cX5_kept 49 = .ok (.ireturn, 1) := by decide +kernel
theorem dX5_kept_50 : decode cX5_kept 50 = .ok (.iconst 0, 1) := by decide +kernel
theorem dX5_kept_51 : decode cX5_kept 51 = .ok (.istore 4, 2) := by decide +kernel
theorem dX5_kept_53 : decode cX5_kept 53 = .ok (.iconst 0, 1) := by decide +kernel
theorem dX5_kept_54 : decode cX5_kept 54 = .ok (.istore 5, 2) := by decide +kernel
theorem dX5_kept_56 : decode cX5_kept 56 = .ok (.iload 5, 2) := by decide +kernel
theorem dX5_kept_58 : decode cX5_kept 58 = .ok (.iload_n 3, 1) := by decide +kernel
theorem dX5_kept_59 : decode cX5_kept 59 = .ok (.iadd, 1) := by decide +kernel
theorem dX5_kept_60 : decode cX5_kept 60 = .ok (.aload_n 0, 1) := by decide +kernel
theorem dX5_kept_61 : decode cX5_kept 61 = .ok (.getfield 10, 3) := by decide +kernel
theorem dX5_kept_64 : decode cX5_kept 64 = .ok (.invokevirtual 61, 3) := by decide +kernel
theorem dX5_kept_67 : decode cX5_kept 67 = .ok (.if_icmp .gt 34, 3) := by decide +kernel
theorem dX5_kept_70 : decode cX5_kept 70 = .ok (.aload_n 0, 1) := by decide +kernel
theorem dX5_kept_71 : decode cX5_kept 71 = .ok (.getfield 43, 3) := by decide +kernel
theorem dX5_kept_74 : decode cX5_kept 74 = .ok (.iload_n 1, 1) := by decide +kernel
theorem dX5_kept_75 : decode cX5_kept 75 = .ok (.iload_n 2, 1) := by decide +kernel
theorem dX5_kept_76 : decode cX5_kept 76 = .ok (.aload_n 0, 1) := by decide +kernel
theorem dX5_kept_77 : decode cX5_kept 77 = .ok (.getfield 43, 3) := by decide +kernel
theorem dX5_kept_80 : decode cX5_kept 80 = .ok (.iload 5, 2) := by decide +kernel
theorem dX5_kept_82 : decode cX5_kept 82 = .ok (.iload_n 3, 1) := by decide +kernel
theorem dX5_kept_83 : decode cX5_kept 83 = .ok (.invokevirtual 198, 3) := by decide +kernel
theorem dX5_kept_86 : decode cX5_kept 86 = .ok (.invokevirtual 205, 3) := by decide +kernel
theorem dX5_kept_89 : decode cX5_kept 89 = .ok (.ifCond .eq 6, 3) := by decide +kernel
theorem dX5_kept_92 : decode cX5_kept 92 = .ok (.iinc 4 1, 3) := by decide +kernel
theorem dX5_kept_95 : decode cX5_kept 95 = .ok (.iinc 5 1, 3) := by decide +kernel
theorem dX5_kept_98 : decode cX5_kept 98 = .ok (.goto (-42), 3) := by decide +kernel
theorem dX5_kept_101 : decode cX5_kept 101 = .ok (.iload 4, 2) := by decide +kernel
theorem dX5_kept_103 : decode cX5_kept 103 = .ok (.ireturn, 1) := by decide +kernel
set_option maxRecDepth 20000 in
theorem ggX5_rounds_X5_meanKeptByTurning : GoodIn wsX5_rounds wsX5_meanKeptByTurning := goodIn_r _ [6, 7, 8, 5, 9, 10, 11, 12] (by decide +kernel) (by decide +kernel)
set_option maxRecDepth 20000 in
theorem gX5_rounds_X5_meanKeptByTurning : GoodIn wsX5_rounds (va_wsS RX5 211 yX5_meanKeptByTurning wsX5_meanKeptByTurning) := goodIn_app (goodIn_of _ (by decide +kernel)) ggX5_rounds_X5_meanKeptByTurning
set_option maxRecDepth 20000 in
theorem ggX5_rounds_X5_meanKeptByTurningOver : GoodIn wsX5_rounds wsX5_meanKeptByTurningOver := goodIn_r _ [15, 2, 10, 11, 5, 12] (by decide +kernel) (by decide +kernel)
set_option maxRecDepth 20000 in
theorem gX5_rounds_X5_meanKeptByTurningOver : GoodIn wsX5_rounds (va_wsS RX5 215 yX5_meanKeptByTurningOver wsX5_meanKeptByTurningOver) := goodIn_app (goodIn_of _ (by decide +kernel)) ggX5_rounds_X5_meanKeptByTurningOver
theorem dX5_rounds_0 : decode cX5_rounds 0 = .ok (.iload_n 1, 1) := by decide +kernel
theorem dX5_rounds_1 : decode cX5_rounds 1 = .ok (.iconst 1, 1) := by decide +kernel
theorem dX5_rounds_2 : decode cX5_rounds 2 = .ok (.if_icmp .lt 20, 3) := by decide +kernel
theorem dX5_rounds_5 : decode cX5_rounds 5 = .ok (.iload_n 1, 1) := by decide +kernel
theorem dX5_rounds_6 : decode cX5_rounds 6 = .ok (.bipush 24, 2) := by decide +kernel
theorem dX5_rounds_8 : decode cX5_rounds 8 = .ok (.if_icmp .gt 14, 3) := by decide +kernel
theorem dX5_rounds_11 : decode cX5_rounds 11 = .ok (.iload_n 2, 1) := by decide +kernel
theorem dX5_rounds_12 : decode cX5_rounds 12 = .ok (.iconst 1, 1) := by decide +kernel
theorem dX5_rounds_13 : decode cX5_rounds 13 = .ok (.if_icmp .lt 9, 3) := by decide +kernel
theorem dX5_rounds_16 : decode cX5_rounds 16 = .ok (.iload_n 2, 1) := by decide +kernel
theorem dX5_rounds_17 : decode cX5_rounds 17 = .ok (.bipush 6, 2) := by decide +kernel
theorem dX5_rounds_19 : decode cX5_rounds 19 = .ok (.if_icmp .le 7, 3) := by decide +kernel
theorem dX5_rounds_22 : decode cX5_rounds 22 = .ok (.ldc2_w 209, 3) := by decide +kernel
theorem dX5_rounds_25 : decode cX5_rounds 25 = .ok (.lreturn, 1) := by decide +kernel
theorem dX5_rounds_26 : decode cX5_rounds 26 = .ok (.iload_n 1, 1) := by decide +kernel
theorem dX5_rounds_27 : decode cX5_rounds 27 = .ok (.iload_n 2, 1) := by decide +kernel
theorem dX5_rounds_28 : decode cX5_rounds 28 = .ok (.invokestatic 211, 3) := by decide +kernel
theorem dX5_rounds_31 : decode cX5_rounds 31 = .ok (.lstore 4, 2) := by decide +kernel
theorem dX5_rounds_33 : decode cX5_rounds 33 = .ok (.iload_n 3, 1) := by decide +kernel
theorem dX5_rounds_34 : decode cX5_rounds 34 = .ok (.ifCond .eq 18, 3) := by decide +kernel
theorem dX5_rounds_37 : decode cX5_rounds 37 = .ok (.lload 4, 2) := by decide +kernel
theorem dX5_rounds_39 : decode cX5_rounds 39 = .ok (.iload_n 1, 1) := by decide +kernel
theorem dX5_rounds_40 : decode cX5_rounds 40 = .ok (.iload_n 2, 1) := by decide +kernel
theorem dX5_rounds_41 : decode cX5_rounds 41 = .ok (.invokestatic 215, 3) := by decide +kernel
theorem dX5_rounds_44 : decode cX5_rounds 44 = .ok (.ladd, 1) := by decide +kernel
theorem dX5_rounds_45 : decode cX5_rounds 45 = .ok (.ldc2_w 218, 3) := by decide +kernel
theorem dX5_rounds_48 : decode cX5_rounds 48 = .ok (.ldiv, 1) := by decide +kernel
theorem dX5_rounds_49 : decode cX5_rounds 49 = .ok (.goto 5, 3) := by decide +kernel
theorem dX5_rounds_52 : decode cX5_rounds 52 = .ok (.lload 4, 2) := by decide +kernel
theorem dX5_rounds_54 : decode cX5_rounds 54 = .ok (.lreturn, 1) := by decide +kernel
theorem dX5_listOf_0 : decode cX5_listOf 0 = .ok (.iload_n 1, 1) := by decide +kernel
theorem dX5_listOf_1 : decode cX5_listOf 1 = .ok (.ifCond .ne 8, 3) := by decide +kernel
theorem dX5_listOf_4 : decode cX5_listOf 4 = .ok (.aload_n 0, 1) := by decide +kernel
theorem dX5_listOf_5 : decode cX5_listOf 5 = .ok (.getfield 30, 3) := by decide +kernel
theorem dX5_listOf_8 : decode cX5_listOf 8 = .ok (.areturn, 1) := by decide +kernel
theorem dX5_listOf_9 : decode cX5_listOf 9 = .ok (.iload_n 1, 1) := by decide +kernel
theorem dX5_listOf_10 : decode cX5_listOf 10 = .ok (.iconst 1, 1) := by decide +kernel
theorem dX5_listOf_11 : decode cX5_listOf 11 = .ok (.if_icmp .ne 10, 3) := by decide +kernel
theorem dX5_listOf_14 : decode cX5_listOf 14 = .ok (.aload_n 0, 1) := by decide +kernel
theorem dX5_listOf_15 : decode cX5_listOf 15 = .ok (.getfield 34, 3) := by decide +kernel
theorem dX5_listOf_18 : decode cX5_listOf 18 = .ok (.goto 7, 3) := by decide +kernel
theorem dX5_listOf_21 : decode cX5_listOf 21 = .ok (.aload_n 0, 1) := by decide +kernel
theorem dX5_listOf_22 : decode cX5_listOf 22 = .ok (.getfield 37, 3) := by decide +kernel
theorem dX5_listOf_25 : decode cX5_listOf 25 = .ok (.areturn, 1) := by decide +kernel
set_option maxRecDepth 20000 in
theorem ggX5_isSetSize_X0_count : GoodIn wsX5_isSetSize wsX0_count := goodIn_r _ [6, 7, 15, 16] (by decide +kernel) (by decide +kernel)
set_option maxRecDepth 20000 in
theorem gX5_isSetSize_X0_count : GoodIn wsX5_isSetSize (wsV RX5 61 RX0 yX0_count wsX0_count) := goodIn_app (goodIn_of _ (by decide +kernel)) ggX5_isSetSize_X0_count
theorem dX5_isSetSize_0 : decode cX5_isSetSize 0 = .ok (.iload_n 1, 1) := by decide +kernel
theorem dX5_isSetSize_1 : decode cX5_isSetSize 1 = .ok (.ifCond .lt 18, 3) := by decide +kernel
theorem dX5_isSetSize_4 : decode cX5_isSetSize 4 = .ok (.iload_n 1, 1) := by decide +kernel
theorem dX5_isSetSize_5 : decode cX5_isSetSize 5 = .ok (.aload_n 0, 1) := by decide +kernel
theorem dX5_isSetSize_6 : decode cX5_isSetSize 6 = .ok (.getfield 10, 3) := by decide +kernel
theorem dX5_isSetSize_9 : decode cX5_isSetSize 9 = .ok (.invokevirtual 61, 3) := by decide +kernel
theorem dX5_isSetSize_12 : decode cX5_isSetSize 12 = .ok (.if_icmp .gt 7, 3) := by decide +kernel
theorem dX5_isSetSize_15 : decode cX5_isSetSize 15 = .ok (.iconst 1, 1) := by decide +kernel
theorem dX5_isSetSize_16 : decode cX5_isSetSize 16 = .ok (.goto 4, 3) := by decide +kernel
theorem dX5_isSetSize_19 : decode cX5_isSetSize 19 = .ok (.iconst 0, 1) := by decide +kernel
theorem dX5_isSetSize_20 : decode cX5_isSetSize 20 = .ok (.ireturn, 1) := by decide +kernel
theorem dX5_isClassKind_0 : decode cX5_isClassKind 0 = .ok (.iload_n 0, 1) := by decide +kernel
theorem dX5_isClassKind_1 : decode cX5_isClassKind 1 = .ok (.ifCond .lt 12, 3) := by decide +kernel
theorem dX5_isClassKind_4 : decode cX5_isClassKind 4 = .ok (.iload_n 0, 1) := by decide +kernel
theorem dX5_isClassKind_5 : decode cX5_isClassKind 5 = .ok (.iconst 2, 1) := by decide +kernel
theorem dX5_isClassKind_6 : decode cX5_isClassKind 6 = .ok (.if_icmp .gt 7, 3) := by decide +kernel
theorem dX5_isClassKind_9 : decode cX5_isClassKind 9 = .ok (.iconst 1, 1) := by decide +kernel
theorem dX5_isClassKind_10 : decode cX5_isClassKind 10 = .ok (.goto 4, 3) := by decide +kernel
theorem dX5_isClassKind_13 : decode cX5_isClassKind 13 = .ok (.iconst 0, 1) := by decide +kernel
theorem dX5_isClassKind_14 : decode cX5_isClassKind 14 = .ok (.ireturn, 1) := by decide +kernel
theorem dX5_isFormKind_0 : decode cX5_isFormKind 0 = .ok (.iload_n 0, 1) := by decide +kernel
theorem dX5_isFormKind_1 : decode cX5_isFormKind 1 = .ok (.ifCond .lt 12, 3) := by decide +kernel
theorem dX5_isFormKind_4 : decode cX5_isFormKind 4 = .ok (.iload_n 0, 1) := by decide +kernel
theorem dX5_isFormKind_5 : decode cX5_isFormKind 5 = .ok (.iconst 3, 1) := by decide +kernel
theorem dX5_isFormKind_6 : decode cX5_isFormKind 6 = .ok (.if_icmp .gt 7, 3) := by decide +kernel
theorem dX5_isFormKind_9 : decode cX5_isFormKind 9 = .ok (.iconst 1, 1) := by decide +kernel
theorem dX5_isFormKind_10 : decode cX5_isFormKind 10 = .ok (.goto 4, 3) := by decide +kernel
theorem dX5_isFormKind_13 : decode cX5_isFormKind 13 = .ok (.iconst 0, 1) := by decide +kernel
theorem dX5_isFormKind_14 : decode cX5_isFormKind 14 = .ok (.ireturn, 1) := by decide +kernel
set_option maxRecDepth 20000 in
theorem ggX5_orderRefusal_X0_hasSet : GoodIn wsX5_orderRefusal wsX0_hasSet := goodIn_r _ [6, 7, 22, 23] (by decide +kernel) (by decide +kernel)
set_option maxRecDepth 20000 in
theorem gX5_orderRefusal_X0_hasSet : GoodIn wsX5_orderRefusal (wsV RX5 75 RX0 yX0_hasSet wsX0_hasSet) := goodIn_app (goodIn_of _ (by decide +kernel)) ggX5_orderRefusal_X0_hasSet
set_option maxRecDepth 20000 in
theorem ggX5_orderRefusal_J6_bitCount_0f7a4 : GoodIn wsX5_orderRefusal wsJ6_bitCount_0f7a4 := goodIn_r _ [11, 12, 13, 14] (by decide +kernel) (by decide +kernel)
set_option maxRecDepth 20000 in
theorem gX5_orderRefusal_J6_bitCount_0f7a4 : GoodIn wsX5_orderRefusal (va_wsS RX5 129 yJ6_bitCount_0f7a4 wsJ6_bitCount_0f7a4) := goodIn_app (goodIn_of _ (by decide +kernel)) ggX5_orderRefusal_J6_bitCount_0f7a4
theorem dX5_orderRefusal_0 : decode cX5_orderRefusal 0 = .ok (.aload_n 0, 1) := by decide +kernel
theorem dX5_orderRefusal_1 : decode cX5_orderRefusal 1 = .ok (.getfield 10, 3) := by decide +kernel
theorem dX5_orderRefusal_4 : decode cX5_orderRefusal 4 = .ok (.iload_n 1, 1) := by decide +kernel
theorem dX5_orderRefusal_5 : decode cX5_orderRefusal 5 = .ok (.invokevirtual 75, 3) := by decide +kernel
theorem dX5_orderRefusal_8 : decode cX5_orderRefusal 8 = .ok (.ifCond .eq 12, 3) := by decide +kernel
theorem dX5_orderRefusal_11 : decode cX5_orderRefusal 11 = .ok (.iload_n 2, 1) := by decide +kernel
theorem dX5_orderRefusal_12 : decode cX5_orderRefusal 12 = .ok (.ifCond .lt 8, 3) := by decide +kernel
theorem dX5_orderRefusal_15 : decode cX5_orderRefusal 15 = .ok (.iload_n 2, 1) := by decide +kernel
theorem dX5_orderRefusal_16 : decode cX5_orderRefusal 16 = .ok (.iconst 1, 1) := by decide +kernel
theorem dX5_orderRefusal_17 : decode cX5_orderRefusal 17 = .ok (.if_icmp .le 6, 3) := by decide +kernel
theorem dX5_orderRefusal_20 : decode cX5_orderRefusal 20 = .ok (.bipush (-2), 2) := by decide +kernel
theorem dX5_orderRefusal_22 : decode cX5_orderRefusal 22 = .ok (.ireturn, 1) := by decide +kernel
theorem dX5_orderRefusal_23 : decode cX5_orderRefusal 23 = .ok (.iload_n 1, 1) := by decide +kernel
theorem dX5_orderRefusal_24 : decode cX5_orderRefusal 24 = .ok (.ifCond .ne 6, 3) := by decide +kernel
theorem dX5_orderRefusal_27 : decode cX5_orderRefusal 27 = .ok (.bipush (-3), 2) := by decide +kernel
theorem dX5_orderRefusal_29 : decode cX5_orderRefusal 29 = .ok (.ireturn, 1) := by decide +kernel
theorem dX5_orderRefusal_30 : decode cX5_orderRefusal 30 = .ok (.iload_n 3, 1) := by decide +kernel
theorem dX5_orderRefusal_31 : decode cX5_orderRefusal 31 = .ok (.ifCond .lt 11, 3) := by decide +kernel
theorem dX5_orderRefusal_34 : decode cX5_orderRefusal 34 = .ok (.iload_n 3, 1) := by decide +kernel
theorem dX5_orderRefusal_35 : decode cX5_orderRefusal 35 = .ok (.iload_n 1, 1) := by decide +kernel
theorem dX5_orderRefusal_36 : decode cX5_orderRefusal 36 = .ok (.invokestatic 129, 3) := by decide +kernel
theorem dX5_orderRefusal_39 : decode cX5_orderRefusal 39 = .ok (.if_icmp .lt 7, 3) := by decide +kernel
theorem dX5_orderRefusal_42 : decode cX5_orderRefusal 42 = .ok (.iconst (-1), 1) := by decide +kernel
theorem dX5_orderRefusal_43 : decode cX5_orderRefusal 43 = .ok (.goto 4, 3) := by decide +kernel
theorem dX5_orderRefusal_46 : decode cX5_orderRefusal 46 = .ok (.iconst 0, 1) := by decide +kernel
theorem dX5_orderRefusal_47 : decode cX5_orderRefusal 47 = .ok (.ireturn, 1) := by decide +kernel
set_option maxRecDepth 20000 in
theorem ggX5_sameVector_J6_bitCount_0f7a4 : GoodIn wsX5_sameVector wsJ6_bitCount_0f7a4 := goodIn_r _ [5, 6, 7, 8] (by decide +kernel) (by decide +kernel)
set_option maxRecDepth 20000 in
theorem gX5_sameVector_J6_bitCount_0f7a4 : GoodIn wsX5_sameVector (va_wsS RX5 129 yJ6_bitCount_0f7a4 wsJ6_bitCount_0f7a4) := goodIn_app (goodIn_of _ (by decide +kernel)) ggX5_sameVector_J6_bitCount_0f7a4
set_option maxRecDepth 20000 in
theorem ggX5_sameVector_X0_count : GoodIn wsX5_sameVector wsX0_count := goodIn_r _ [13, 14, 32, 33] (by decide +kernel) (by decide +kernel)
set_option maxRecDepth 20000 in
theorem gX5_sameVector_X0_count : GoodIn wsX5_sameVector (wsV RX5 61 RX0 yX0_count wsX0_count) := goodIn_app (goodIn_of _ (by decide +kernel)) ggX5_sameVector_X0_count
set_option maxRecDepth 20000 in
theorem ggX5_sameVector_X0_pairsApart : GoodIn wsX5_sameVector wsX0_pairsApart := goodIn_r _ [18, 19, 20, 21, 12, 22, 14, 23, 24, 3, 4, 5, 6, 7, 8, 32, 33] (by decide +kernel) (by decide +kernel)
set_option maxRecDepth 20000 in
theorem gX5_sameVector_X0_pairsApart : GoodIn wsX5_sameVector (wsV RX5 137 RX0 yX0_pairsApart wsX0_pairsApart) := goodIn_app (goodIn_of _ (by decide +kernel)) ggX5_sameVector_X0_pairsApart
theorem dX5_sameVector_0 : decode cX5_sameVector 0 = .ok (.iload_n 1, 1) := by decide +kernel
theorem dX5_sameVector_1 : decode cX5_sameVector 1 = .ok (.invokestatic 129, 3) := by decide +kernel
theorem dX5_sameVector_4 : decode cX5_sameVector 4 = .ok (.iload_n 2, 1) := by decide +kernel
theorem dX5_sameVector_5 : decode cX5_sameVector 5 = .ok (.invokestatic 129, 3) := by decide +kernel
theorem dX5_sameVector_8 : decode cX5_sameVector 8 = .ok (.if_icmp .eq 5, 3) := by decide +kernel
theorem dX5_sameVector_11 : decode cX5_sameVector 11 = .ok (.iconst 0, 1) := by decide +kernel
theorem dX5_sameVector_12 : decode cX5_sameVector 12 = .ok (.ireturn, 1) := by decide +kernel
theorem dX5_sameVector_13 : decode cX5_sameVector 13 = .ok (.iconst 1, 1) := by decide +kernel
theorem dX5_sameVector_14 : decode cX5_sameVector 14 = .ok (.istore_n 3, 1) := by decide +kernel
theorem dX5_sameVector_15 : decode cX5_sameVector 15 = .ok (.iload_n 3, 1) := by decide +kernel
theorem dX5_sameVector_16 : decode cX5_sameVector 16 = .ok (.aload_n 0, 1) := by decide +kernel
theorem dX5_sameVector_17 : decode cX5_sameVector 17 = .ok (.getfield 10, 3) := by decide +kernel
theorem dX5_sameVector_20 : decode cX5_sameVector 20 = .ok (.invokevirtual 61, 3) := by decide +kernel
theorem dX5_sameVector_23 : decode cX5_sameVector 23 = .ok (.iconst 2, 1) := by decide +kernel
theorem dX5_sameVector_24 : decode cX5_sameVector 24 = .ok (.idiv, 1) := by decide +kernel
theorem dX5_sameVector_25 : decode cX5_sameVector 25 = .ok (.if_icmp .gt 32, 3) := by decide +kernel
theorem dX5_sameVector_28 : decode cX5_sameVector 28 = .ok (.aload_n 0, 1) := by decide +kernel
theorem dX5_sameVector_29 : decode cX5_sameVector 29 = .ok (.getfield 10, 3) := by decide +kernel
theorem dX5_sameVector_32 : decode cX5_sameVector 32 = .ok (.iload_n 1, 1) := by decide +kernel
theorem dX5_sameVector_33 : decode cX5_sameVector 33 = .ok (.iload_n 3, 1) := by decide +kernel
theorem dX5_sameVector_34 : decode cX5_sameVector 34 = .ok (.invokevirtual 137, 3) := by decide +kernel
theorem dX5_sameVector_37 : decode cX5_sameVector 37 = .ok (.aload_n 0, 1) := by decide +kernel
theorem dX5_sameVector_38 : decode cX5_sameVector 38 = .ok (.getfield 10, 3) := by decide +kernel
theorem dX5_sameVector_41 : decode cX5_sameVector 41 = .ok (.iload_n 2, 1) := by decide +kernel
theorem dX5_sameVector_42 : decode cX5_sameVector 42 = .ok (.iload_n 3, 1) := by decide +kernel
theorem dX5_sameVector_43 : decode cX5_sameVector 43 = .ok (.invokevirtual 137, 3) := by decide +kernel
theorem dX5_sameVector_46 : decode cX5_sameVector 46 = .ok (.if_icmp .eq 5, 3) := by decide +kernel
theorem dX5_sameVector_49 : decode cX5_sameVector 49 = .ok (.iconst 0, 1) := by decide +kernel
theorem dX5_sameVector_50 : decode cX5_sameVector 50 = .ok (.ireturn, 1) := by decide +kernel
theorem dX5_sameVector_51 : decode cX5_sameVector 51 = .ok (.iinc 3 1, 3) := by decide +kernel
theorem dX5_sameVector_54 : decode cX5_sameVector 54 = .ok (.goto (-39), 3) := by decide +kernel
theorem dX5_sameVector_57 : decode cX5_sameVector 57 = .ok (.iconst 1, 1) := by decide +kernel
theorem dX5_sameVector_58 : decode cX5_sameVector 58 = .ok (.ireturn, 1) := by decide +kernel
set_option maxRecDepth 20000 in
theorem ggX5_isChain_J6_bitCount_0f7a4 : GoodIn wsX5_isChain wsJ6_bitCount_0f7a4 := goodIn_r _ [5, 6, 7, 8] (by decide +kernel) (by decide +kernel)
set_option maxRecDepth 20000 in
theorem gX5_isChain_J6_bitCount_0f7a4 : GoodIn wsX5_isChain (va_wsS RX5 129 yJ6_bitCount_0f7a4 wsJ6_bitCount_0f7a4) := goodIn_app (goodIn_of _ (by decide +kernel)) ggX5_isChain_J6_bitCount_0f7a4
set_option maxRecDepth 20000 in
theorem ggX5_isChain_X0_count : GoodIn wsX5_isChain wsX0_count := goodIn_r _ [13, 14, 26, 27] (by decide +kernel) (by decide +kernel)
set_option maxRecDepth 20000 in
theorem gX5_isChain_X0_count : GoodIn wsX5_isChain (wsV RX5 61 RX0 yX0_count wsX0_count) := goodIn_app (goodIn_of _ (by decide +kernel)) ggX5_isChain_X0_count
set_option maxRecDepth 20000 in
theorem ggX5_isChain_X0_wrapped : GoodIn wsX5_isChain wsX0_wrapped := goodIn_r _ [18, 14, 26, 27] (by decide +kernel) (by decide +kernel)
set_option maxRecDepth 20000 in
theorem gX5_isChain_X0_wrapped : GoodIn wsX5_isChain (wsV RX5 119 RX0 yX0_wrapped wsX0_wrapped) := goodIn_app (goodIn_of _ (by decide +kernel)) ggX5_isChain_X0_wrapped
theorem dX5_isChain_0 : decode cX5_isChain 0 = .ok (.iload_n 1, 1) := by decide +kernel
theorem dX5_isChain_1 : decode cX5_isChain 1 = .ok (.invokestatic 129, 3) := by decide +kernel
theorem dX5_isChain_4 : decode cX5_isChain 4 = .ok (.istore_n 3, 1) := by decide +kernel
theorem dX5_isChain_5 : decode cX5_isChain 5 = .ok (.iconst 0, 1) := by decide +kernel
theorem dX5_isChain_6 : decode cX5_isChain 6 = .ok (.istore 4, 2) := by decide +kernel
theorem dX5_isChain_8 : decode cX5_isChain 8 = .ok (.iload 4, 2) := by decide +kernel
theorem dX5_isChain_10 : decode cX5_isChain 10 = .ok (.aload_n 0, 1) := by decide +kernel
theorem dX5_isChain_11 : decode cX5_isChain 11 = .ok (.getfield 10, 3) := by decide +kernel
theorem dX5_isChain_14 : decode cX5_isChain 14 = .ok (.invokevirtual 61, 3) := by decide +kernel
theorem dX5_isChain_17 : decode cX5_isChain 17 = .ok (.if_icmp .ge 56, 3) := by decide +kernel
theorem dX5_isChain_20 : decode cX5_isChain 20 = .ok (.iconst 0, 1) := by decide +kernel
theorem dX5_isChain_21 : decode cX5_isChain 21 = .ok (.istore 5, 2) := by decide +kernel
theorem dX5_isChain_23 : decode cX5_isChain 23 = .ok (.iconst 0, 1) := by decide +kernel
theorem dX5_isChain_24 : decode cX5_isChain 24 = .ok (.istore 6, 2) := by decide +kernel
theorem dX5_isChain_26 : decode cX5_isChain 26 = .ok (.iload 6, 2) := by decide +kernel
theorem dX5_isChain_28 : decode cX5_isChain 28 = .ok (.iload_n 3, 1) := by decide +kernel
theorem dX5_isChain_29 : decode cX5_isChain 29 = .ok (.if_icmp .ge 30, 3) := by decide +kernel
theorem dX5_isChain_32 : decode cX5_isChain 32 = .ok (.iload 5, 2) := by decide +kernel
theorem dX5_isChain_34 : decode cX5_isChain 34 = .ok (.iconst 1, 1) := by decide +kernel
theorem dX5_isChain_35 : decode cX5_isChain 35 = .ok (.aload_n 0, 1) := by decide +kernel
theorem dX5_isChain_36 : decode cX5_isChain 36 = .ok (.getfield 10, 3) := by decide +kernel
theorem dX5_isChain_39 : decode cX5_isChain 39 = .ok (.iload 4, 2) := by decide +kernel
theorem dX5_isChain_41 : decode cX5_isChain 41 = .ok (.iload 6, 2) := by decide +kernel
theorem dX5_isChain_43 : decode cX5_isChain 43 = .ok (.iload_n 2, 1) := by decide +kernel
theorem dX5_isChain_44 : decode cX5_isChain 44 = .ok (.imul, 1) := by decide +kernel
theorem dX5_isChain_45 : decode cX5_isChain 45 = .ok (.iadd, 1) := by decide +kernel
theorem dX5_isChain_46 : decode cX5_isChain 46 = .ok (.invokevirtual 119, 3) := by decide +kernel
theorem dX5_isChain_49 : decode cX5_isChain 49 = .ok (.ishl, 1) := by decide +kernel
theorem dX5_isChain_50 : decode cX5_isChain 50 = .ok (.ior, 1) := by decide +kernel
theorem dX5_isChain_51 : decode cX5_isChain 51 = .ok (.istore 5, 2) := by decide +kernel
theorem dX5_isChain_53 : decode cX5_isChain 53 = .ok (.iinc 6 1, 3) := by decide +kernel
theorem dX5_isChain_56 : decode cX5_isChain 56 = .ok (.goto (-30), 3) := by decide +kernel
theorem dX5_isChain_59 : decode cX5_isChain 59 = .ok (.iload 5, 2) := by decide +kernel
theorem dX5_isChain_61 : decode cX5_isChain 61 = .ok (.iload_n 1, 1) := by decide +kernel
theorem dX5_isChain_62 : decode cX5_isChain 62 = .ok (.if_icmp .ne 5, 3) := by decide +kernel
theorem dX5_isChain_65 : decode cX5_isChain 65 = .ok (.iconst 1, 1) := by decide +kernel
theorem dX5_isChain_66 : decode cX5_isChain 66 = .ok (.ireturn, 1) := by decide +kernel
theorem dX5_isChain_67 : decode cX5_isChain 67 = .ok (.iinc 4 1, 3) := by decide +kernel
theorem dX5_isChain_70 : decode cX5_isChain 70 = .ok (.goto (-62), 3) := by decide +kernel
theorem dX5_isChain_73 : decode cX5_isChain 73 = .ok (.iconst 0, 1) := by decide +kernel
theorem dX5_isChain_74 : decode cX5_isChain 74 = .ok (.ireturn, 1) := by decide +kernel
set_option maxRecDepth 20000 in
theorem ggX5_meanKeptByTurning_X5_commonDivisor : GoodIn wsX5_meanKeptByTurning wsX5_commonDivisor := goodIn_r _ [4] (by decide +kernel) (by decide +kernel)
set_option maxRecDepth 20000 in
theorem gX5_meanKeptByTurning_X5_commonDivisor : GoodIn wsX5_meanKeptByTurning (va_wsS RX5 220 yX5_commonDivisor wsX5_commonDivisor) := goodIn_app (goodIn_of _ (by decide +kernel)) ggX5_meanKeptByTurning_X5_commonDivisor
set_option maxRecDepth 20000 in
theorem ggX5_meanKeptByTurning_X5_power : GoodIn wsX5_meanKeptByTurning wsX5_power := goodIn_r _ [7] (by decide +kernel) (by decide +kernel)
set_option maxRecDepth 20000 in
theorem gX5_meanKeptByTurning_X5_power : GoodIn wsX5_meanKeptByTurning (va_wsS RX5 223 yX5_power wsX5_power) := goodIn_app (goodIn_of _ (by decide +kernel)) ggX5_meanKeptByTurning_X5_power
theorem dX5_meanKeptByTurning_0 : decode cX5_meanKeptByTurning 0 = .ok (.lconst 0, 1) := by decide +kernel
theorem dX5_meanKeptByTurning_1 : decode cX5_meanKeptByTurning 1 = .ok (.lstore_n 2, 1) := by decide +kernel
theorem dX5_meanKeptByTurning_2 : decode cX5_meanKeptByTurning 2 = .ok (.iconst 1, 1) := by decide +kernel
theorem dX5_meanKeptByTurning_3 : decode cX5_meanKeptByTurning 3 = .ok (.istore 4, 2) := by decide +kernel
theorem dX5_meanKeptByTurning_5 : decode cX5_meanKeptByTurning 5 = .ok (.iload 4, 2) := by decide +kernel
theorem dX5_meanKeptByTurning_7 : decode cX5_meanKeptByTurning 7 = .ok (.iload_n 0, 1) := by decide +kernel
theorem dX5_meanKeptByTurning_8 : decode cX5_meanKeptByTurning 8 = .ok (.if_icmp .gt 22, 3) := by decide +kernel
theorem dX5_meanKeptByTurning_11 : decode cX5_meanKeptByTurning 11 = .ok (.lload_n 2, 1) := by decide +kernel
theorem dX5_meanKeptByTurning_12 : decode cX5_meanKeptByTurning 12 = .ok (.iload_n 1, 1) := by decide +kernel
theorem dX5_meanKeptByTurning_13 : decode cX5_meanKeptByTurning 13 = .ok (.iload 4, 2) := by decide +kernel
theorem dX5_meanKeptByTurning_15 : decode cX5_meanKeptByTurning 15 = .ok (.iload_n 0, 1) := by decide +kernel
theorem dX5_meanKeptByTurning_16 : decode cX5_meanKeptByTurning 16 = .ok (.invokestatic 220, 3) := by decide +kernel
theorem dX5_meanKeptByTurning_19 : decode cX5_meanKeptByTurning 19 = .ok (.invokestatic 223, 3) := by decide +kernel
theorem dX5_meanKeptByTurning_22 : decode cX5_meanKeptByTurning 22 = .ok (.ladd, 1) := by decide +kernel
theorem dX5_meanKeptByTurning_23 : decode cX5_meanKeptByTurning 23 = .ok (.lstore_n 2, 1) := by decide +kernel
theorem dX5_meanKeptByTurning_24 : decode cX5_meanKeptByTurning 24 = .ok (.iinc 4 1, 3) := by decide +kernel
theorem dX5_meanKeptByTurning_27 : decode cX5_meanKeptByTurning 27 = .ok (.goto (-22), 3) := by decide +kernel
theorem dX5_meanKeptByTurning_30 : decode cX5_meanKeptByTurning 30 = .ok (.iload_n 0, 1) := by decide +kernel
theorem dX5_meanKeptByTurning_31 : decode cX5_meanKeptByTurning 31 = .ok (.iconst 1, 1) := by decide +kernel
theorem dX5_meanKeptByTurning_32 : decode cX5_meanKeptByTurning 32 = .ok (.if_icmp .ge 7, 3) := by decide +kernel
theorem dX5_meanKeptByTurning_35 : decode cX5_meanKeptByTurning 35 = .ok (.lconst 0, 1) := by decide +kernel
theorem dX5_meanKeptByTurning_36 : decode cX5_meanKeptByTurning 36 = .ok (.goto 7, 3) := by decide +kernel
theorem dX5_meanKeptByTurning_39 : decode cX5_meanKeptByTurning 39 = .ok (.lload_n 2, 1) := by decide +kernel
theorem dX5_meanKeptByTurning_40 : decode cX5_meanKeptByTurning 40 = .ok (.iload_n 0, 1) := by decide +kernel
theorem dX5_meanKeptByTurning_41 : decode cX5_meanKeptByTurning 41 = .ok (.i2l, 1) := by decide +kernel
theorem dX5_meanKeptByTurning_42 : decode cX5_meanKeptByTurning 42 = .ok (.ldiv, 1) := by decide +kernel
theorem dX5_meanKeptByTurning_43 : decode cX5_meanKeptByTurning 43 = .ok (.lreturn, 1) := by decide +kernel
set_option maxRecDepth 20000 in
theorem ggX5_meanKeptByTurningOver_X5_power : GoodIn wsX5_meanKeptByTurningOver wsX5_power := goodIn_r _ [5] (by decide +kernel) (by decide +kernel)
set_option maxRecDepth 20000 in
theorem gX5_meanKeptByTurningOver_X5_power : GoodIn wsX5_meanKeptByTurningOver (va_wsS RX5 223 yX5_power wsX5_power) := goodIn_app (goodIn_of _ (by decide +kernel)) ggX5_meanKeptByTurningOver_X5_power
theorem dX5_meanKeptByTurningOver_0 : decode cX5_meanKeptByTurningOver 0 = .ok (.iload_n 1, 1) := by decide +kernel
theorem dX5_meanKeptByTurningOver_1 : decode cX5_meanKeptByTurningOver 1 = .ok (.iload_n 0, 1) := by decide +kernel
theorem dX5_meanKeptByTurningOver_2 : decode cX5_meanKeptByTurningOver 2 = .ok (.iconst 1, 1) := by decide +kernel
theorem dX5_meanKeptByTurningOver_3 : decode cX5_meanKeptByTurningOver 3 = .ok (.iadd, 1) := by decide +kernel
theorem dX5_meanKeptByTurningOver_4 : decode cX5_meanKeptByTurningOver 4 = .ok (.iconst 2, 1) := by decide +kernel
theorem dX5_meanKeptByTurningOver_5 : decode cX5_meanKeptByTurningOver 5 = .ok (.idiv, 1) := by decide +kernel
theorem dX5_meanKeptByTurningOver_6 : decode cX5_meanKeptByTurningOver 6 = .ok (.invokestatic 223, 3) := by decide +kernel
theorem dX5_meanKeptByTurningOver_9 : decode cX5_meanKeptByTurningOver 9 = .ok (.iload_n 1, 1) := by decide +kernel
theorem dX5_meanKeptByTurningOver_10 : decode cX5_meanKeptByTurningOver 10 = .ok (.iload_n 0, 1) := by decide +kernel
theorem dX5_meanKeptByTurningOver_11 : decode cX5_meanKeptByTurningOver 11 = .ok (.iconst 2, 1) := by decide +kernel
theorem dX5_meanKeptByTurningOver_12 : decode cX5_meanKeptByTurningOver 12 = .ok (.idiv, 1) := by decide +kernel
theorem dX5_meanKeptByTurningOver_13 : decode cX5_meanKeptByTurningOver 13 = .ok (.iconst 1, 1) := by decide +kernel
theorem dX5_meanKeptByTurningOver_14 : decode cX5_meanKeptByTurningOver 14 = .ok (.iadd, 1) := by decide +kernel
theorem dX5_meanKeptByTurningOver_15 : decode cX5_meanKeptByTurningOver 15 = .ok (.invokestatic 223, 3) := by decide +kernel
theorem dX5_meanKeptByTurningOver_18 : decode cX5_meanKeptByTurningOver 18 = .ok (.ladd, 1) := by decide +kernel
theorem dX5_meanKeptByTurningOver_19 : decode cX5_meanKeptByTurningOver 19 = .ok (.ldc2_w 218, 3) := by decide +kernel
theorem dX5_meanKeptByTurningOver_22 : decode cX5_meanKeptByTurningOver 22 = .ok (.ldiv, 1) := by decide +kernel
theorem dX5_meanKeptByTurningOver_23 : decode cX5_meanKeptByTurningOver 23 = .ok (.lreturn, 1) := by decide +kernel
theorem dX5_power_0 : decode cX5_power 0 = .ok (.lconst 1, 1) := by decide +kernel
theorem dX5_power_1 : decode cX5_power 1 = .ok (.lstore_n 2, 1) := by decide +kernel
theorem dX5_power_2 : decode cX5_power 2 = .ok (.iconst 0, 1) := by decide +kernel
theorem dX5_power_3 : decode cX5_power 3 = .ok (.istore 4, 2) := by decide +kernel
theorem dX5_power_5 : decode cX5_power 5 = .ok (.iload 4, 2) := by decide +kernel
theorem dX5_power_7 : decode cX5_power 7 = .ok (.iload_n 1, 1) := by decide +kernel
theorem dX5_power_8 : decode cX5_power 8 = .ok (.if_icmp .ge 14, 3) := by decide +kernel
theorem dX5_power_11 : decode cX5_power 11 = .ok (.lload_n 2, 1) := by decide +kernel
theorem dX5_power_12 : decode cX5_power 12 = .ok (.iload_n 0, 1) := by decide +kernel
theorem dX5_power_13 : decode cX5_power 13 = .ok (.i2l, 1) := by decide +kernel
theorem dX5_power_14 : decode cX5_power 14 = .ok (.lmul, 1) := by decide +kernel
theorem dX5_power_15 : decode cX5_power 15 = .ok (.lstore_n 2, 1) := by decide +kernel
theorem dX5_power_16 : decode cX5_power 16 = .ok (.iinc 4 1, 3) := by decide +kernel
theorem dX5_power_19 : decode cX5_power 19 = .ok (.goto (-14), 3) := by decide +kernel
theorem dX5_power_22 : decode cX5_power 22 = .ok (.lload_n 2, 1) := by decide +kernel
theorem dX5_power_23 : decode cX5_power 23 = .ok (.lreturn, 1) := by decide +kernel
theorem dX5_commonDivisor_0 : decode cX5_commonDivisor 0 = .ok (.iload_n 1, 1) := by decide +kernel
theorem dX5_commonDivisor_1 : decode cX5_commonDivisor 1 = .ok (.istore_n 2, 1) := by decide +kernel
theorem dX5_commonDivisor_2 : decode cX5_commonDivisor 2 = .ok (.iload_n 2, 1) := by decide +kernel
theorem dX5_commonDivisor_3 : decode cX5_commonDivisor 3 = .ok (.iconst 1, 1) := by decide +kernel
theorem dX5_commonDivisor_4 : decode cX5_commonDivisor 4 = .ok (.if_icmp .le 23, 3) := by decide +kernel
theorem dX5_commonDivisor_7 : decode cX5_commonDivisor 7 = .ok (.iload_n 0, 1) := by decide +kernel
theorem dX5_commonDivisor_8 : decode cX5_commonDivisor 8 = .ok (.iload_n 2, 1) := by decide +kernel
theorem dX5_commonDivisor_9 : decode cX5_commonDivisor 9 = .ok (.irem, 1) := by decide +kernel
theorem dX5_commonDivisor_10 : decode cX5_commonDivisor 10 = .ok (.ifCond .ne 11, 3) := by decide +kernel
theorem dX5_commonDivisor_13 : decode cX5_commonDivisor 13 = .ok (.iload_n 1, 1) := by decide +kernel
theorem dX5_commonDivisor_14 : decode cX5_commonDivisor 14 = .ok (.iload_n 2, 1) := by decide +kernel
theorem dX5_commonDivisor_15 : decode cX5_commonDivisor 15 = .ok (.irem, 1) := by decide +kernel
theorem dX5_commonDivisor_16 : decode cX5_commonDivisor 16 = .ok (.ifCond .ne 5, 3) := by decide +kernel
theorem dX5_commonDivisor_19 : decode cX5_commonDivisor 19 = .ok (.iload_n 2, 1) := by decide +kernel
theorem dX5_commonDivisor_20 : decode cX5_commonDivisor 20 = .ok (.ireturn, 1) := by decide +kernel
theorem dX5_commonDivisor_21 : decode cX5_commonDivisor 21 = .ok (.iinc 2 (-1), 3) := by decide +kernel
theorem dX5_commonDivisor_24 : decode cX5_commonDivisor 24 = .ok (.goto (-22), 3) := by decide +kernel
theorem dX5_commonDivisor_27 : decode cX5_commonDivisor 27 = .ok (.iconst 1, 1) := by decide +kernel
theorem dX5_commonDivisor_28 : decode cX5_commonDivisor 28 = .ok (.ireturn, 1) := by decide +kernel
theorem dX5_quotient_0 : decode cX5_quotient 0 = .ok (.iload_n 1, 1) := by decide +kernel
theorem dX5_quotient_1 : decode cX5_quotient 1 = .ok (.ifCond .ne 7, 3) := by decide +kernel
theorem dX5_quotient_4 : decode cX5_quotient 4 = .ok (.iconst 0, 1) := by decide +kernel
theorem dX5_quotient_5 : decode cX5_quotient 5 = .ok (.goto 6, 3) := by decide +kernel
theorem dX5_quotient_8 : decode cX5_quotient 8 = .ok (.iload_n 0, 1) := by decide +kernel
theorem dX5_quotient_9 : decode cX5_quotient 9 = .ok (.iload_n 1, 1) := by decide +kernel
theorem dX5_quotient_10 : decode cX5_quotient 10 = .ok (.idiv, 1) := by decide +kernel
theorem dX5_quotient_11 : decode cX5_quotient 11 = .ok (.ireturn, 1) := by decide +kernel
