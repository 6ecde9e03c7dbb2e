theorem dL_ground_0 : decode cL_ground 0 = .ok (.aload_n 0, 1) := by decide +kernel
theorem dL_ground_1 : decode cL_ground 1 = .ok (.iload_n 1, 1) := by decide +kernel
theorem dL_ground_2 : decode cL_ground 2 = .ok (.iload_n 2, 1) := by decide +kernel
theorem dL_ground_3 : decode cL_ground 3 = .ok (.invokevirtual 7, 3) := by decide +kernel
theorem dL_ground_6 : decode cL_ground 6 = .ok (.goto 6, 3) := by decide +kernel
theorem dL_ground_9 : decode cL_ground 9 = .ok (.astore_n 3, 1) := by decide +kernel
theorem dL_ground_10 : decode cL_ground 10 = .ok (.iconst 1, 1) := by decide +kernel
theorem dL_ground_11 : decode cL_ground 11 = .ok (.ireturn, 1) := by decide +kernel
theorem dL_ground_12 : decode cL_ground 12 = .ok (.iconst 0, 1) := by decide +kernel
theorem dL_ground_13 : decode cL_ground 13 = .ok (.ireturn, 1) := by decide +kernel
set_option maxRecDepth 20000 in
theorem ggL_channel_X6_channel : GoodIn wsL_channel wsX6_channel := goodIn_ca (goodIn_r _ [6, 7, 8, 9, 10, 11, 12, 13, 14, 15, 16, 17, 18, 19, 20, 21, 22, 23, 24, 25] (by decide +kernel) (by decide +kernel)) (goodIn_sub (fun _ h => List.mem_cons_of_mem _ (List.mem_append_right _ h)) (by decide +kernel))
set_option maxRecDepth 20000 in
theorem gL_channel_X6_channel : GoodIn wsL_channel (wsV RL 15 RX6 yX6_channel wsX6_channel) := goodIn_app (goodIn_of _ (by decide +kernel)) ggL_channel_X6_channel
theorem dL_channel_0 : decode cL_channel 0 = .ok (.aload_n 1, 1) := by decide +kernel
theorem dL_channel_1 : decode cL_channel 1 = .ok (.iconst 0, 1) := by decide +kernel
theorem dL_channel_2 : decode cL_channel 2 = .ok (.aload_n 0, 1) := by decide +kernel
theorem dL_channel_3 : decode cL_channel 3 = .ok (.invokevirtual 15, 3) := by decide +kernel
theorem dL_channel_6 : decode cL_channel 6 = .ok (.i2l, 1) := by decide +kernel
theorem dL_channel_7 : decode cL_channel 7 = .ok (.lastore, 1) := by decide +kernel
theorem dL_channel_8 : decode cL_channel 8 = .ok (.goto 6, 3) := by decide +kernel
theorem dL_channel_11 : decode cL_channel 11 = .ok (.astore_n 2, 1) := by decide +kernel
theorem dL_channel_12 : decode cL_channel 12 = .ok (.iconst 1, 1) := by decide +kernel
theorem dL_channel_13 : decode cL_channel 13 = .ok (.ireturn, 1) := by decide +kernel
theorem dL_channel_14 : decode cL_channel 14 = .ok (.iconst 0, 1) := by decide +kernel
theorem dL_channel_15 : decode cL_channel 15 = .ok (.ireturn, 1) := by decide +kernel
set_option maxRecDepth 20000 in
theorem ggL_well_X6_well : GoodIn wsL_well wsX6_well := goodIn_ca (goodIn_ca (goodIn_ca (goodIn_ca (goodIn_r _ [9, 10, 11, 12, 13, 14, 15, 16, 17, 8, 18, 19, 20, 21, 22, 23, 24, 25, 26, 27, 28, 29, 30, 31, 32, 33, 34, 35, 36, 37, 38, 39, 40, 41, 42, 43, 44, 45, 46, 47, 48, 49, 50, 51, 52, 53, 54, 55, 56, 57, 58, 59, 60, 61, 62, 63, 64, 65, 66, 67, 68, 69, 70, 71, 72, 73] (by decide +kernel) (by decide +kernel)) (goodIn_sub (fun _ h => List.mem_cons_of_mem _ (List.mem_append_left _ (List.mem_append_left _ (List.mem_append_left _ (List.mem_append_right _ h))))) (by decide +kernel))) (goodIn_sub (fun _ h => List.mem_cons_of_mem _ (List.mem_append_left _ (List.mem_append_left _ (List.mem_append_right _ h)))) (by decide +kernel))) (goodIn_sub (fun _ h => List.mem_cons_of_mem _ (List.mem_append_left _ (List.mem_append_right _ h))) (by decide +kernel))) (goodIn_sub (fun _ h => List.mem_cons_of_mem _ (List.mem_append_right _ h)) (by decide +kernel))
set_option maxRecDepth 20000 in
theorem gL_well_X6_well : GoodIn wsL_well (wsV RL 21 RX6 yX6_well wsX6_well) := goodIn_app (goodIn_of _ (by decide +kernel)) ggL_well_X6_well
theorem dL_well_0 : decode cL_well 0 = .ok (.aload 5, 2) := by decide +kernel
theorem dL_well_2 : decode cL_well 2 = .ok (.iconst 0, 1) := by decide +kernel
theorem dL_well_3 : decode cL_well 3 = .ok (.aload_n 0, 1) := by decide +kernel
theorem dL_well_4 : decode cL_well 4 = .ok (.iload_n 1, 1) := by decide +kernel
theorem dL_well_5 : decode cL_well 5 = .ok (.iload_n 2, 1) := by decide +kernel
theorem dL_well_6 : decode cL_well 6 = .ok (.iload_n 3, 1) := by decide +kernel
theorem dL_well_7 : decode cL_well 7 = .ok (.iload 4, 2) := by decide +kernel
theorem dL_well_9 : decode cL_well 9 = .ok (.invokevirtual 21, 3) := by decide +kernel
theorem dL_well_12 : decode cL_well 12 = .ok (.i2l, 1) := by decide +kernel
theorem dL_well_13 : decode cL_well 13 = .ok (.lastore, 1) := by decide +kernel
theorem dL_well_14 : decode cL_well 14 = .ok (.goto 19, 3) := by decide +kernel
theorem dL_well_17 : decode cL_well 17 = .ok (.astore 6, 2) := by decide +kernel
theorem dL_well_19 : decode cL_well 19 = .ok (.iconst 1, 1) := by decide +kernel
theorem dL_well_20 : decode cL_well 20 = .ok (.ireturn, 1) := by decide +kernel
theorem dL_well_21 : decode cL_well 21 = .ok (.astore 6, 2) := by decide +kernel
theorem dL_well_23 : decode cL_well 23 = .ok (.iconst 2, 1) := by decide +kernel
theorem dL_well_24 : decode cL_well 24 = .ok (.ireturn, 1) := by decide +kernel
theorem dL_well_25 : decode cL_well 25 = .ok (.astore 6, 2) := by decide +kernel
theorem dL_well_27 : decode cL_well 27 = .ok (.iconst 3, 1) := by decide +kernel
theorem dL_well_28 : decode cL_well 28 = .ok (.ireturn, 1) := by decide +kernel
theorem dL_well_29 : decode cL_well 29 = .ok (.astore 6, 2) := by decide +kernel
theorem dL_well_31 : decode cL_well 31 = .ok (.iconst 4, 1) := by decide +kernel
theorem dL_well_32 : decode cL_well 32 = .ok (.ireturn, 1) := by decide +kernel
theorem dL_well_33 : decode cL_well 33 = .ok (.iconst 0, 1) := by decide +kernel
theorem dL_well_34 : decode cL_well 34 = .ok (.ireturn, 1) := by decide +kernel
set_option maxRecDepth 20000 in
theorem ggL_may_X6_may : GoodIn wsL_may wsX6_may := goodIn_ca (goodIn_ca (goodIn_r _ [7, 8, 9, 10, 6, 11, 12, 13, 14, 15, 16, 17, 18, 19, 20, 21, 22, 23, 24, 25, 26, 27, 28, 29, 30, 31, 32, 33, 34, 35, 36, 37, 38, 39, 40, 41, 42, 43, 44, 45, 46, 47, 48, 49, 50, 51, 52, 53, 54, 55, 56, 57, 58, 59, 60, 61, 62, 63, 64, 65, 66, 67, 68, 69, 70, 71, 72, 73, 74] (by decide +kernel) (by decide +kernel)) (goodIn_sub (fun _ h => List.mem_cons_of_mem _ (List.mem_append_left _ (List.mem_append_right _ h))) (by decide +kernel))) (goodIn_sub (fun _ h => List.mem_cons_of_mem _ (List.mem_append_right _ h)) (by decide +kernel))
set_option maxRecDepth 20000 in
theorem gL_may_X6_may : GoodIn wsL_may (wsV RL 29 RX6 yX6_may wsX6_may) := goodIn_app (goodIn_of _ (by decide +kernel)) ggL_may_X6_may
theorem dL_may_0 : decode cL_may 0 = .ok (.aload_n 2, 1) := by decide +kernel
theorem dL_may_1 : decode cL_may 1 = .ok (.iconst 0, 1) := by decide +kernel
theorem dL_may_2 : decode cL_may 2 = .ok (.aload_n 0, 1) := by decide +kernel
theorem dL_may_3 : decode cL_may 3 = .ok (.iload_n 1, 1) := by decide +kernel
theorem dL_may_4 : decode cL_may 4 = .ok (.invokevirtual 29, 3) := by decide +kernel
theorem dL_may_7 : decode cL_may 7 = .ok (.ifCond .eq 7, 3) := by decide +kernel
theorem dL_may_10 : decode cL_may 10 = .ok (.lconst 1, 1) := by decide +kernel
theorem dL_may_11 : decode cL_may 11 = .ok (.goto 4, 3) := by decide +kernel
theorem dL_may_14 : decode cL_may 14 = .ok (.lconst 0, 1) := by decide +kernel
theorem dL_may_15 : decode cL_may 15 = .ok (.lastore, 1) := by decide +kernel
theorem dL_may_16 : decode cL_may 16 = .ok (.goto 9, 3) := by decide +kernel
theorem dL_may_19 : decode cL_may 19 = .ok (.astore_n 3, 1) := by decide +kernel
theorem dL_may_20 : decode cL_may 20 = .ok (.iconst 1, 1) := by decide +kernel
theorem dL_may_21 : decode cL_may 21 = .ok (.ireturn, 1) := by decide +kernel
theorem dL_may_22 : decode cL_may 22 = .ok (.astore_n 3, 1) := by decide +kernel
theorem dL_may_23 : decode cL_may 23 = .ok (.iconst 2, 1) := by decide +kernel
theorem dL_may_24 : decode cL_may 24 = .ok (.ireturn, 1) := by decide +kernel
theorem dL_may_25 : decode cL_may 25 = .ok (.iconst 0, 1) := by decide +kernel
theorem dL_may_26 : decode cL_may 26 = .ok (.ireturn, 1) := by decide +kernel
set_option maxRecDepth 20000 in
theorem ggL_dig_X6_dig : GoodIn wsL_dig wsX6_dig := goodIn_ca (goodIn_ca (goodIn_ca (goodIn_r _ [8, 9, 10, 11, 12, 13, 14, 15, 16, 17, 18, 19, 7, 20, 21, 22, 23, 24, 25, 26, 27, 28, 29, 30, 31, 32, 33, 34, 35, 36, 37, 38, 39, 40, 41, 42, 43, 44, 45, 46, 47, 48, 49, 50, 51, 52, 53, 54, 55, 56, 57, 58, 59, 60, 61, 62, 63, 64, 65, 66, 67, 68, 69, 70, 71, 72, 73, 74, 75, 76, 77, 78, 79, 80, 81, 82, 83, 84, 85, 86, 87, 88, 89, 90, 91, 92, 93, 94, 95, 96, 97, 98, 99, 100, 101, 102, 103, 104, 105, 106, 107, 108, 109, 110, 111, 112, 113] (by decide +kernel) (by decide +kernel)) (goodIn_sub (fun _ h => List.mem_cons_of_mem _ (List.mem_append_left _ (List.mem_append_left _ (List.mem_append_right _ h)))) (by decide +kernel))) (goodIn_sub (fun _ h => List.mem_cons_of_mem _ (List.mem_append_left _ (List.mem_append_right _ h))) (by decide +kernel))) (goodIn_sub (fun _ h => List.mem_cons_of_mem _ (List.mem_append_right _ h)) (by decide +kernel))
set_option maxRecDepth 20000 in
theorem gL_dig_X6_dig : GoodIn wsL_dig (wsV RL 33 RX6 yX6_dig wsX6_dig) := goodIn_app (goodIn_of _ (by decide +kernel)) ggL_dig_X6_dig
theorem dL_dig_0 : decode cL_dig 0 = .ok (.aload 4, 2) := by decide +kernel
theorem dL_dig_2 : decode cL_dig 2 = .ok (.iconst 0, 1) := by decide +kernel
theorem dL_dig_3 : decode cL_dig 3 = .ok (.aload_n 0, 1) := by decide +kernel
theorem dL_dig_4 : decode cL_dig 4 = .ok (.iload_n 1, 1) := by decide +kernel
theorem dL_dig_5 : decode cL_dig 5 = .ok (.iload_n 2, 1) := by decide +kernel
theorem dL_dig_6 : decode cL_dig 6 = .ok (.iload_n 3, 1) := by decide +kernel
theorem dL_dig_7 : decode cL_dig 7 = .ok (.invokevirtual 33, 3) := by decide +kernel
theorem dL_dig_10 : decode cL_dig 10 = .ok (.i2l, 1) := by decide +kernel
theorem dL_dig_11 : decode cL_dig 11 = .ok (.lastore, 1) := by decide +kernel
theorem dL_dig_12 : decode cL_dig 12 = .ok (.goto 15, 3) := by decide +kernel
theorem dL_dig_15 : decode cL_dig 15 = .ok (.astore 5, 2) := by decide +kernel
theorem dL_dig_17 : decode cL_dig 17 = .ok (.iconst 1, 1) := by decide +kernel
theorem dL_dig_18 : decode cL_dig 18 = .ok (.ireturn, 1) := by decide +kernel
theorem dL_dig_19 : decode cL_dig 19 = .ok (.astore 5, 2) := by decide +kernel
theorem dL_dig_21 : decode cL_dig 21 = .ok (.iconst 2, 1) := by decide +kernel
theorem dL_dig_22 : decode cL_dig 22 = .ok (.ireturn, 1) := by decide +kernel
theorem dL_dig_23 : decode cL_dig 23 = .ok (.astore 5, 2) := by decide +kernel
theorem dL_dig_25 : decode cL_dig 25 = .ok (.iconst 3, 1) := by decide +kernel
theorem dL_dig_26 : decode cL_dig 26 = .ok (.ireturn, 1) := by decide +kernel
theorem dL_dig_27 : decode cL_dig 27 = .ok (.iconst 0, 1) := by decide +kernel
theorem dL_dig_28 : decode cL_dig 28 = .ok (.ireturn, 1) := by decide +kernel
set_option maxRecDepth 20000 in
theorem ggL_years_X6_years : GoodIn wsL_years wsX6_years := goodIn_ca (goodIn_r _ [6, 7, 8, 9, 10, 11, 5, 12, 13, 14, 15, 16, 17, 18, 19, 20, 21, 22, 23, 24, 25, 26, 27, 28] (by decide +kernel) (by decide +kernel)) (goodIn_sub (fun _ h => List.mem_cons_of_mem _ (List.mem_append_right _ h)) (by decide +kernel))
set_option maxRecDepth 20000 in
theorem gL_years_X6_years : GoodIn wsL_years (wsV RL 37 RX6 yX6_years wsX6_years) := goodIn_app (goodIn_of _ (by decide +kernel)) ggL_years_X6_years
theorem dL_years_0 : decode cL_years 0 = .ok (.aload_n 2, 1) := by decide +kernel
theorem dL_years_1 : decode cL_years 1 = .ok (.iconst 0, 1) := by decide +kernel
theorem dL_years_2 : decode cL_years 2 = .ok (.aload_n 0, 1) := by decide +kernel
theorem dL_years_3 : decode cL_years 3 = .ok (.iload_n 1, 1) := by decide +kernel
theorem dL_years_4 : decode cL_years 4 = .ok (.invokevirtual 37, 3) := by decide +kernel
theorem dL_years_7 : decode cL_years 7 = .ok (.i2l, 1) := by decide +kernel
theorem dL_years_8 : decode cL_years 8 = .ok (.lastore, 1) := by decide +kernel
theorem dL_years_9 : decode cL_years 9 = .ok (.goto 6, 3) := by decide +kernel
theorem dL_years_12 : decode cL_years 12 = .ok (.astore_n 3, 1) := by decide +kernel
theorem dL_years_13 : decode cL_years 13 = .ok (.iconst 1, 1) := by decide +kernel
theorem dL_years_14 : decode cL_years 14 = .ok (.ireturn, 1) := by decide +kernel
theorem dL_years_15 : decode cL_years 15 = .ok (.iconst 0, 1) := by decide +kernel
theorem dL_years_16 : decode cL_years 16 = .ok (.ireturn, 1) := by decide +kernel
set_option maxRecDepth 20000 in
theorem ggL_collapse_X6_collapse : GoodIn wsL_collapse wsX6_collapse := goodIn_ca (goodIn_ca (goodIn_r _ [7, 8, 9, 10, 11, 6, 12, 13, 14, 15, 16, 17, 18, 19, 20, 21, 22, 23, 24, 25, 26, 27, 28, 29, 30, 31, 32, 33, 34, 35, 36, 37, 38, 39, 40, 41, 42, 43, 44, 45, 46, 47, 48, 49, 50, 51, 52, 53] (by decide +kernel) (by decide +kernel)) (goodIn_sub (fun _ h => List.mem_cons_of_mem _ (List.mem_append_left _ (List.mem_append_right _ h))) (by decide +kernel))) (goodIn_sub (fun _ h => List.mem_cons_of_mem _ (List.mem_append_right _ h)) (by decide +kernel))
set_option maxRecDepth 20000 in
theorem gL_collapse_X6_collapse : GoodIn wsL_collapse (wsV RL 41 RX6 yX6_collapse wsX6_collapse) := goodIn_app (goodIn_of _ (by decide +kernel)) ggL_collapse_X6_collapse
theorem dL_collapse_0 : decode cL_collapse 0 = .ok (.aload 4, 2) := by decide +kernel
theorem dL_collapse_2 : decode cL_collapse 2 = .ok (.iconst 0, 1) := by decide +kernel
theorem dL_collapse_3 : decode cL_collapse 3 = .ok (.aload_n 0, 1) := by decide +kernel
theorem dL_collapse_4 : decode cL_collapse 4 = .ok (.iload_n 1, 1) := by decide +kernel
theorem dL_collapse_5 : decode cL_collapse 5 = .ok (.iload_n 2, 1) := by decide +kernel
theorem dL_collapse_6 : decode cL_collapse 6 = .ok (.iload_n 3, 1) := by decide +kernel
theorem dL_collapse_7 : decode cL_collapse 7 = .ok (.invokevirtual 41, 3) := by decide +kernel
theorem dL_collapse_10 : decode cL_collapse 10 = .ok (.ifCond .eq 7, 3) := by decide +kernel
theorem dL_collapse_13 : decode cL_collapse 13 = .ok (.lconst 1, 1) := by decide +kernel
theorem dL_collapse_14 : decode cL_collapse 14 = .ok (.goto 4, 3) := by decide +kernel
theorem dL_collapse_17 : decode cL_collapse 17 = .ok (.lconst 0, 1) := by decide +kernel
theorem dL_collapse_18 : decode cL_collapse 18 = .ok (.lastore, 1) := by decide +kernel
theorem dL_collapse_19 : decode cL_collapse 19 = .ok (.goto 11, 3) := by decide +kernel
theorem dL_collapse_22 : decode cL_collapse 22 = .ok (.astore 5, 2) := by decide +kernel
theorem dL_collapse_24 : decode cL_collapse 24 = .ok (.iconst 1, 1) := by decide +kernel
theorem dL_collapse_25 : decode cL_collapse 25 = .ok (.ireturn, 1) := by decide +kernel
theorem dL_collapse_26 : decode cL_collapse 26 = .ok (.astore 5, 2) := by decide +kernel
theorem dL_collapse_28 : decode cL_collapse 28 = .ok (.iconst 2, 1) := by decide +kernel
theorem dL_collapse_29 : decode cL_collapse 29 = .ok (.ireturn, 1) := by decide +kernel
theorem dL_collapse_30 : decode cL_collapse 30 = .ok (.iconst 0, 1) := by decide +kernel
theorem dL_collapse_31 : decode cL_collapse 31 = .ok (.ireturn, 1) := by decide +kernel
set_option maxRecDepth 20000 in
theorem ggL_flow_X6_flow : GoodIn wsL_flow wsX6_flow := goodIn_ca (goodIn_ca (goodIn_r _ [7, 8, 9, 10, 11, 6, 12, 13, 14, 15, 16, 17, 18, 19, 20, 21, 22, 23, 24, 25, 26, 27, 28, 29, 30, 31, 32, 33, 34, 35, 36, 37, 38, 39, 40, 41, 42, 43, 44, 45, 46, 47, 48, 49, 50, 51, 52, 53, 54, 55, 56, 57, 58, 59, 60, 61, 62, 63, 64, 65, 66, 67, 68, 69, 70, 71, 72, 73, 74, 75, 76, 77, 78, 79, 80, 81, 82, 83, 84, 85, 86, 87, 88, 89, 90, 91, 92, 93, 94, 95, 96] (by decide +kernel) (by decide +kernel)) (goodIn_sub (fun _ h => List.mem_cons_of_mem _ (List.mem_append_left _ (List.mem_append_right _ h))) (by decide +kernel))) (goodIn_sub (fun _ h => List.mem_cons_of_mem _ (List.mem_append_right _ h)) (by decide +kernel))
set_option maxRecDepth 20000 in
theorem gL_flow_X6_flow : GoodIn wsL_flow (wsV RL 45 RX6 yX6_flow wsX6_flow) := goodIn_app (goodIn_of _ (by decide +kernel)) ggL_flow_X6_flow
theorem dL_flow_0 : decode cL_flow 0 = .ok (.aload_n 2, 1) := by decide +kernel
theorem dL_flow_1 : decode cL_flow 1 = .ok (.iconst 0, 1) := by decide +kernel
theorem dL_flow_2 : decode cL_flow 2 = .ok (.aload_n 0, 1) := by decide +kernel
theorem dL_flow_3 : decode cL_flow 3 = .ok (.iload_n 1, 1) := by decide +kernel
theorem dL_flow_4 : decode cL_flow 4 = .ok (.invokevirtual 45, 3) := by decide +kernel
theorem dL_flow_7 : decode cL_flow 7 = .ok (.i2l, 1) := by decide +kernel
theorem dL_flow_8 : decode cL_flow 8 = .ok (.lastore, 1) := by decide +kernel
theorem dL_flow_9 : decode cL_flow 9 = .ok (.goto 9, 3) := by decide +kernel
theorem dL_flow_12 : decode cL_flow 12 = .ok (.astore_n 3, 1) := by decide +kernel
theorem dL_flow_13 : decode cL_flow 13 = .ok (.iconst 1, 1) := by decide +kernel
theorem dL_flow_14 : decode cL_flow 14 = .ok (.ireturn, 1) := by decide +kernel
theorem dL_flow_15 : decode cL_flow 15 = .ok (.astore_n 3, 1) := by decide +kernel
theorem dL_flow_16 : decode cL_flow 16 = .ok (.iconst 2, 1) := by decide +kernel
theorem dL_flow_17 : decode cL_flow 17 = .ok (.ireturn, 1) := by decide +kernel
theorem dL_flow_18 : decode cL_flow 18 = .ok (.iconst 0, 1) := by decide +kernel
theorem dL_flow_19 : decode cL_flow 19 = .ok (.ireturn, 1) := by decide +kernel
set_option maxRecDepth 20000 in
theorem ggL_harm_X6_harm : GoodIn wsL_harm wsX6_harm := goodIn_ca (goodIn_ca (goodIn_r _ [7, 8, 9, 10, 11, 12, 6, 13, 14, 15, 16, 17, 18, 19, 20, 21, 22, 23, 24, 25, 26, 27, 28, 29, 30, 31, 32, 33, 34, 35, 36, 37, 38, 39, 40, 41, 42, 43, 44, 45, 46, 47, 48, 49, 50, 51, 52, 53, 54, 55, 56, 57, 58, 59, 60, 61, 62, 63, 64, 65, 66, 67, 68, 69, 70, 71, 72, 73, 74, 75, 76, 77, 78, 79, 80, 81, 82, 83, 84, 85, 86, 87, 88, 89, 90, 91, 92, 93, 94, 95, 96] (by decide +kernel) (by decide +kernel)) (goodIn_sub (fun _ h => List.mem_cons_of_mem _ (List.mem_append_left _ (List.mem_append_right _ h))) (by decide +kernel))) (goodIn_sub (fun _ h => List.mem_cons_of_mem _ (List.mem_append_right _ h)) (by decide +kernel))
set_option maxRecDepth 20000 in
theorem gL_harm_X6_harm : GoodIn wsL_harm (wsV RL 48 RX6 yX6_harm wsX6_harm) := goodIn_app (goodIn_of _ (by decide +kernel)) ggL_harm_X6_harm
theorem dL_harm_0 : decode cL_harm 0 = .ok (.aload_n 2, 1) := by decide +kernel
theorem dL_harm_1 : decode cL_harm 1 = .ok (.iconst 0, 1) := by decide +kernel
theorem dL_harm_2 : decode cL_harm 2 = .ok (.aload_n 0, 1) := by decide +kernel
theorem dL_harm_3 : decode cL_harm 3 = .ok (.iload_n 1, 1) := by decide +kernel
theorem dL_harm_4 : decode cL_harm 4 = .ok (.invokevirtual 48, 3) := by decide +kernel
theorem dL_harm_7 : decode cL_harm 7 = .ok (.i2l, 1) := by decide +kernel
theorem dL_harm_8 : decode cL_harm 8 = .ok (.lastore, 1) := by decide +kernel
theorem dL_harm_9 : decode cL_harm 9 = .ok (.goto 9, 3) := by decide +kernel
theorem dL_harm_12 : decode cL_harm 12 = .ok (.astore_n 3, 1) := by decide +kernel
theorem dL_harm_13 : decode cL_harm 13 = .ok (.iconst 1, 1) := by decide +kernel
theorem dL_harm_14 : decode cL_harm 14 = .ok (.ireturn, 1) := by decide +kernel
theorem dL_harm_15 : decode cL_harm 15 = .ok (.astore_n 3, 1) := by decide +kernel
theorem dL_harm_16 : decode cL_harm 16 = .ok (.iconst 2, 1) := by decide +kernel
theorem dL_harm_17 : decode cL_harm 17 = .ok (.ireturn, 1) := by decide +kernel
theorem dL_harm_18 : decode cL_harm 18 = .ok (.iconst 0, 1) := by decide +kernel
theorem dL_harm_19 : decode cL_harm 19 = .ok (.ireturn, 1) := by decide +kernel
set_option maxRecDepth 20000 in
theorem ggL_seep_X6_seep : GoodIn wsL_seep wsX6_seep := goodIn_ca (goodIn_ca (goodIn_r _ [7, 8, 9, 10, 11, 6, 12, 13, 14, 15, 16, 17, 18, 19, 20, 21, 22, 23, 24, 25, 26, 27, 28, 29, 30, 31, 32, 33, 34, 35, 36, 37, 38, 39, 40, 41, 42, 43, 44, 45, 46, 47, 48, 49, 50, 51, 52, 53, 54, 55, 56, 57, 58, 59, 60, 61, 62, 63, 64, 65, 66, 67, 68, 69, 70, 71, 72, 73, 74, 75, 76, 77, 78, 79, 80, 81, 82, 83, 84, 85, 86, 87, 88] (by decide +kernel) (by decide +kernel)) (goodIn_sub (fun _ h => List.mem_cons_of_mem _ (List.mem_append_left _ (List.mem_append_right _ h))) (by decide +kernel))) (goodIn_sub (fun _ h => List.mem_cons_of_mem _ (List.mem_append_right _ h)) (by decide +kernel))
set_option maxRecDepth 20000 in
theorem gL_seep_X6_seep : GoodIn wsL_seep (wsV RL 51 RX6 yX6_seep wsX6_seep) := goodIn_app (goodIn_of _ (by decide +kernel)) ggL_seep_X6_seep
theorem dL_seep_0 : decode cL_seep 0 = .ok (.aload_n 3, 1) := by decide +kernel
theorem dL_seep_1 : decode cL_seep 1 = .ok (.iconst 0, 1) := by decide +kernel
theorem dL_seep_2 : decode cL_seep 2 = .ok (.aload_n 0, 1) := by decide +kernel
theorem dL_seep_3 : decode cL_seep 3 = .ok (.iload_n 1, 1) := by decide +kernel
theorem dL_seep_4 : decode cL_seep 4 = .ok (.iload_n 2, 1) := by decide +kernel
theorem dL_seep_5 : decode cL_seep 5 = .ok (.invokevirtual 51, 3) := by decide +kernel
theorem dL_seep_8 : decode cL_seep 8 = .ok (.i2l, 1) := by decide +kernel
theorem dL_seep_9 : decode cL_seep 9 = .ok (.lastore, 1) := by decide +kernel
theorem dL_seep_10 : decode cL_seep 10 = .ok (.goto 11, 3) := by decide +kernel
theorem dL_seep_13 : decode cL_seep 13 = .ok (.astore 4, 2) := by decide +kernel
theorem dL_seep_15 : decode cL_seep 15 = .ok (.iconst 1, 1) := by decide +kernel
theorem dL_seep_16 : decode cL_seep 16 = .ok (.ireturn, 1) := by decide +kernel
theorem dL_seep_17 : decode cL_seep 17 = .ok (.astore 4, 2) := by decide +kernel
theorem dL_seep_19 : decode cL_seep 19 = .ok (.iconst 2, 1) := by decide +kernel
theorem dL_seep_20 : decode cL_seep 20 = .ok (.ireturn, 1) := by decide +kernel
theorem dL_seep_21 : decode cL_seep 21 = .ok (.iconst 0, 1) := by decide +kernel
theorem dL_seep_22 : decode cL_seep 22 = .ok (.ireturn, 1) := by decide +kernel
set_option maxRecDepth 20000 in
theorem ggL_sell_X6_sell : GoodIn wsL_sell wsX6_sell := goodIn_ca (goodIn_ca (goodIn_ca (goodIn_ca (goodIn_r _ [9, 10, 11, 12, 13, 14, 15, 16, 17, 18, 19, 20, 21, 8, 22, 23, 24, 25, 26, 27, 28, 29, 30, 31, 32, 33, 34, 35, 36, 37, 38, 39, 40, 41, 42, 43, 44, 45, 46, 47, 48, 49, 50, 51, 52, 53, 54, 55, 56, 57, 58, 59, 60, 61, 62, 63, 64, 65, 66, 67, 68, 69, 70, 71, 72, 73, 74, 75, 76, 77, 78, 79, 80, 81] (by decide +kernel) (by decide +kernel)) (goodIn_sub (fun _ h => List.mem_cons_of_mem _ (List.mem_append_left _ (List.mem_append_left _ (List.mem_append_left _ (List.mem_append_right _ h))))) (by decide +kernel))) (goodIn_sub (fun _ h => List.mem_cons_of_mem _ (List.mem_append_left _ (List.mem_append_left _ (List.mem_append_right _ h)))) (by decide +kernel))) (goodIn_sub (fun _ h => List.mem_cons_of_mem _ (List.mem_append_left _ (List.mem_append_right _ h))) (by decide +kernel))) (goodIn_sub (fun _ h => List.mem_cons_of_mem _ (List.mem_append_right _ h)) (by decide +kernel))
set_option maxRecDepth 20000 in
theorem gL_sell_X6_sell : GoodIn wsL_sell (wsV RL 55 RX6 yX6_sell wsX6_sell) := goodIn_app (goodIn_of _ (by decide +kernel)) ggL_sell_X6_sell
theorem dL_sell_0 : decode cL_sell 0 = .ok (.aload_n 0, 1) := by decide +kernel
theorem dL_sell_1 : decode cL_sell 1 = .ok (.iload_n 1, 1) := by decide +kernel
theorem dL_sell_2 : decode cL_sell 2 = .ok (.iload_n 2, 1) := by decide +kernel
theorem dL_sell_3 : decode cL_sell 3 = .ok (.iload_n 3, 1) := by decide +kernel
theorem dL_sell_4 : decode cL_sell 4 = .ok (.iload 4, 2) := by decide +kernel
theorem dL_sell_6 : decode cL_sell 6 = .ok (.invokevirtual 55, 3) := by decide +kernel
theorem dL_sell_9 : decode cL_sell 9 = .ok (.goto 19, 3) := by decide +kernel
theorem dL_sell_12 : decode cL_sell 12 = .ok (.astore 5, 2) := by decide +kernel
theorem dL_sell_14 : decode cL_sell 14 = .ok (.iconst 1, 1) := by decide +kernel
theorem dL_sell_15 : decode cL_sell 15 = .ok (.ireturn, 1) := by decide +kernel
theorem dL_sell_16 : decode cL_sell 16 = .ok (.astore 5, 2) := by decide +kernel
theorem dL_sell_18 : decode cL_sell 18 = .ok (.iconst 2, 1) := by decide +kernel
theorem dL_sell_19 : decode cL_sell 19 = .ok (.ireturn, 1) := by decide +kernel
theorem dL_sell_20 : decode cL_sell 20 = .ok (.astore 5, 2) := by decide +kernel
theorem dL_sell_22 : decode cL_sell 22 = .ok (.iconst 3, 1) := by decide +kernel
theorem dL_sell_23 : decode cL_sell 23 = .ok (.ireturn, 1) := by decide +kernel
theorem dL_sell_24 : decode cL_sell 24 = .ok (.astore 5, 2) := by decide +kernel
theorem dL_sell_26 : decode cL_sell 26 = .ok (.iconst 4, 1) := by decide +kernel
theorem dL_sell_27 : decode cL_sell 27 = .ok (.ireturn, 1) := by decide +kernel
theorem dL_sell_28 : decode cL_sell 28 = .ok (.iconst 0, 1) := by decide +kernel
theorem dL_sell_29 : decode cL_sell 29 = .ok (.ireturn, 1) := by decide +kernel
set_option maxRecDepth 20000 in
theorem ggL_heirs_X6_heirs : GoodIn wsL_heirs wsX6_heirs := goodIn_ca (goodIn_ca (goodIn_ca (goodIn_ca (goodIn_r _ [9, 10, 11, 12, 13, 14, 15, 16, 17, 18, 19, 20, 8, 21, 22, 23, 24, 25, 26, 27, 28, 29, 30, 31, 32, 33, 34, 35, 36, 37, 38, 39, 40, 41, 42, 43, 44, 45, 46, 47, 48, 49, 50, 51, 52, 53, 54, 55, 56, 57, 58, 59, 60, 61, 62, 63, 64, 65, 66, 67, 68, 69, 70, 71, 72, 73, 74, 75, 76, 77, 78, 79, 80, 81, 82, 83, 84, 85, 86, 87, 88, 89, 90, 91, 92, 93, 94, 95, 96, 97, 98, 99, 100, 101, 102, 103, 104, 105, 106, 107] (by decide +kernel) (by decide +kernel)) (goodIn_sub (fun _ h => List.mem_cons_of_mem _ (List.mem_append_left _ (List.mem_append_left _ (List.mem_append_left _ (List.mem_append_right _ h))))) (by decide +kernel))) (goodIn_sub (fun _ h => List.mem_cons_of_mem _ (List.mem_append_left _ (List.mem_append_left _ (List.mem_append_right _ h)))) (by decide +kernel))) (goodIn_sub (fun _ h => List.mem_cons_of_mem _ (List.mem_append_left _ (List.mem_append_right _ h))) (by decide +kernel))) (goodIn_sub (fun _ h => List.mem_cons_of_mem _ (List.mem_append_right _ h)) (by decide +kernel))
set_option maxRecDepth 20000 in
theorem gL_heirs_X6_heirs : GoodIn wsL_heirs (wsV RL 59 RX6 yX6_heirs wsX6_heirs) := goodIn_app (goodIn_of _ (by decide +kernel)) ggL_heirs_X6_heirs
theorem dL_heirs_0 : decode cL_heirs 0 = .ok (.aload 11, 2) := by decide +kernel
theorem dL_heirs_2 : decode cL_heirs 2 = .ok (.iconst 0, 1) := by decide +kernel
theorem dL_heirs_3 : decode cL_heirs 3 = .ok (.aload_n 0, 1) := by decide +kernel
theorem dL_heirs_4 : decode cL_heirs 4 = .ok (.iload_n 1, 1) := by decide +kernel
theorem dL_heirs_5 : decode cL_heirs 5 = .ok (.iload_n 2, 1) := by decide +kernel
theorem dL_heirs_6 : decode cL_heirs 6 = .ok (.iload_n 3, 1) := by decide +kernel
theorem dL_heirs_7 : decode cL_heirs 7 = .ok (.iload 4, 2) := by decide +kernel
theorem dL_heirs_9 : decode cL_heirs 9 = .ok (.iload 5, 2) := by decide +kernel
theorem dL_heirs_11 : decode cL_heirs 11 = .ok (.iload 6, 2) := by decide +kernel
theorem dL_heirs_13 : decode cL_heirs 13 = .ok (.iload 7, 2) := by decide +kernel
theorem dL_heirs_15 : decode cL_heirs 15 = .ok (.iload 8, 2) := by decide +kernel
theorem dL_heirs_17 : decode cL_heirs 17 = .ok (.iload 9, 2) := by decide +kernel
theorem dL_heirs_19 : decode cL_heirs 19 = .ok (.iload 10, 2) := by decide +kernel
theorem dL_heirs_21 : decode cL_heirs 21 = .ok (.invokevirtual 59, 3) := by decide +kernel
theorem dL_heirs_24 : decode cL_heirs 24 = .ok (.i2l, 1) := by decide +kernel
theorem dL_heirs_25 : decode cL_heirs 25 = .ok (.lastore, 1) := by decide +kernel
theorem dL_heirs_26 : decode cL_heirs 26 = .ok (.goto 19, 3) := by decide +kernel
theorem dL_heirs_29 : decode cL_heirs 29 = .ok (.astore 12, 2) := by decide +kernel
theorem dL_heirs_31 : decode cL_heirs 31 = .ok (.iconst 1, 1) := by decide +kernel
theorem dL_heirs_32 : decode cL_heirs 32 = .ok (.ireturn, 1) := by decide +kernel
theorem dL_heirs_33 : decode cL_heirs 33 = .ok (.astore 12, 2) := by decide +kernel
theorem dL_heirs_35 : decode cL_heirs 35 = .ok (.iconst 2, 1) := by decide +kernel
theorem dL_heirs_36 : decode cL_heirs 36 = .ok (.ireturn, 1) := by decide +kernel
theorem dL_heirs_37 : decode cL_heirs 37 = .ok (.astore 12, 2) := by decide +kernel
theorem dL_heirs_39 : decode cL_heirs 39 = .ok (.iconst 3, 1) := by decide +kernel
theorem dL_heirs_40 : decode cL_heirs 40 = .ok (.ireturn, 1) := by decide +kernel
theorem dL_heirs_41 : decode cL_heirs 41 = .ok (.astore 12, 2) := by decide +kernel
theorem dL_heirs_43 : decode cL_heirs 43 = .ok (.iconst 4, 1) := by decide +kernel
theorem dL_heirs_44 : decode cL_heirs 44 = .ok (.ireturn, 1) := by decide +kernel
theorem dL_heirs_45 : decode cL_heirs 45 = .ok (.iconst 0, 1) := by decide +kernel
theorem dL_heirs_46 : decode cL_heirs 46 = .ok (.ireturn, 1) := by decide +kernel
set_option maxRecDepth 20000 in
theorem ggL_let_X6_let : GoodIn wsL_let wsX6_let := goodIn_ca (goodIn_ca (goodIn_ca (goodIn_r _ [8, 9, 10, 11, 12, 13, 14, 15, 16, 17, 18, 19, 7, 20, 21, 22, 23, 24, 25, 26, 27, 28, 29, 30, 31, 32, 33, 34, 35, 36, 37, 38, 39, 40, 41, 42, 43, 44, 45, 46, 47, 48, 49, 50, 51, 52, 53, 54, 55, 56, 57, 58, 59, 60, 61, 62, 63, 64, 65] (by decide +kernel) (by decide +kernel)) (goodIn_sub (fun _ h => List.mem_cons_of_mem _ (List.mem_append_left _ (List.mem_append_left _ (List.mem_append_right _ h)))) (by decide +kernel))) (goodIn_sub (fun _ h => List.mem_cons_of_mem _ (List.mem_append_left _ (List.mem_append_right _ h))) (by decide +kernel))) (goodIn_sub (fun _ h => List.mem_cons_of_mem _ (List.mem_append_right _ h)) (by decide +kernel))
set_option maxRecDepth 20000 in
theorem gL_let_X6_let : GoodIn wsL_let (wsV RL 63 RX6 yX6_let wsX6_let) := goodIn_app (goodIn_of _ (by decide +kernel)) ggL_let_X6_let
theorem dL_let_0 : decode cL_let 0 = .ok (.aload_n 0, 1) := by decide +kernel
theorem dL_let_1 : decode cL_let 1 = .ok (.iload_n 1, 1) := by decide +kernel
theorem dL_let_2 : decode cL_let 2 = .ok (.iload_n 2, 1) := by decide +kernel
theorem dL_let_3 : decode cL_let 3 = .ok (.iload_n 3, 1) := by decide +kernel
theorem dL_let_4 : decode cL_let 4 = .ok (.iload 4, 2) := by decide +kernel
theorem dL_let_6 : decode cL_let 6 = .ok (.invokevirtual 63, 3) := by decide +kernel
theorem dL_let_9 : decode cL_let 9 = .ok (.goto 15, 3) := by decide +kernel
theorem dL_let_12 : decode cL_let 12 = .ok (.astore 5, 2) := by decide +kernel
theorem dL_let_14 : decode cL_let 14 = .ok (.iconst 1, 1) := by decide +kernel
theorem dL_let_15 : decode cL_let 15 = .ok (.ireturn, 1) := by decide +kernel
theorem dL_let_16 : decode cL_let 16 = .ok (.astore 5, 2) := by decide +kernel
theorem dL_let_18 : decode cL_let 18 = .ok (.iconst 2, 1) := by decide +kernel
theorem dL_let_19 : decode cL_let 19 = .ok (.ireturn, 1) := by decide +kernel
theorem dL_let_20 : decode cL_let 20 = .ok (.astore 5, 2) := by decide +kernel
theorem dL_let_22 : decode cL_let 22 = .ok (.iconst 3, 1) := by decide +kernel
theorem dL_let_23 : decode cL_let 23 = .ok (.ireturn, 1) := by decide +kernel
theorem dL_let_24 : decode cL_let 24 = .ok (.iconst 0, 1) := by decide +kernel
theorem dL_let_25 : decode cL_let 25 = .ok (.ireturn, 1) := by decide +kernel
set_option maxRecDepth 20000 in
theorem ggL_minutes_X6_minutes : GoodIn wsL_minutes wsX6_minutes := goodIn_ca (goodIn_r _ [6, 7, 8, 9, 10, 11, 12, 5, 13, 14, 15, 16, 17, 18, 19, 20, 21, 22, 23, 24, 25, 26, 27, 28, 29] (by decide +kernel) (by decide +kernel)) (goodIn_sub (fun _ h => List.mem_cons_of_mem _ (List.mem_append_right _ h)) (by decide +kernel))
set_option maxRecDepth 20000 in
theorem gL_minutes_X6_minutes : GoodIn wsL_minutes (wsV RL 66 RX6 yX6_minutes wsX6_minutes) := goodIn_app (goodIn_of _ (by decide +kernel)) ggL_minutes_X6_minutes
theorem dL_minutes_0 : decode cL_minutes 0 = .ok (.aload_n 2, 1) := by decide +kernel
theorem dL_minutes_1 : decode cL_minutes 1 = .ok (.iconst 0, 1) := by decide +kernel
theorem dL_minutes_2 : decode cL_minutes 2 = .ok (.aload_n 0, 1) := by decide +kernel
theorem dL_minutes_3 : decode cL_minutes 3 = .ok (.iload_n 1, 1) := by decide +kernel
theorem dL_minutes_4 : decode cL_minutes 4 = .ok (.invokevirtual 66, 3) := by decide +kernel
theorem dL_minutes_7 : decode cL_minutes 7 = .ok (.i2l, 1) := by decide +kernel
theorem dL_minutes_8 : decode cL_minutes 8 = .ok (.lastore, 1) := by decide +kernel
theorem dL_minutes_9 : decode cL_minutes 9 = .ok (.goto 6, 3) := by decide +kernel
theorem dL_minutes_12 : decode cL_minutes 12 = .ok (.astore_n 3, 1) := by decide +kernel
theorem dL_minutes_13 : decode cL_minutes 13 = .ok (.iconst 1, 1) := by decide +kernel
theorem dL_minutes_14 : decode cL_minutes 14 = .ok (.ireturn, 1) := by decide +kernel
theorem dL_minutes_15 : decode cL_minutes 15 = .ok (.iconst 0, 1) := by decide +kernel
theorem dL_minutes_16 : decode cL_minutes 16 = .ok (.ireturn, 1) := by decide +kernel
set_option maxRecDepth 20000 in
theorem ggL_holder_X6_holder : GoodIn wsL_holder wsX6_holder := goodIn_ca (goodIn_ca (goodIn_r _ [7, 8, 9, 10, 11, 12, 13, 14, 15, 16, 17, 18, 6, 19, 20, 21, 22, 23, 24, 25, 26, 27, 28, 29, 30, 31, 32, 33, 34, 35, 36, 37, 38, 39, 40, 41, 42, 43, 44, 45, 46, 47, 48, 49, 50, 51, 52, 53, 54, 55, 56, 57, 58, 59, 60, 61, 62, 63] (by decide +kernel) (by decide +kernel)) (goodIn_sub (fun _ h => List.mem_cons_of_mem _ (List.mem_append_left _ (List.mem_append_right _ h))) (by decide +kernel))) (goodIn_sub (fun _ h => List.mem_cons_of_mem _ (List.mem_append_right _ h)) (by decide +kernel))
set_option maxRecDepth 20000 in
theorem gL_holder_X6_holder : GoodIn wsL_holder (wsV RL 69 RX6 yX6_holder wsX6_holder) := goodIn_app (goodIn_of _ (by decide +kernel)) ggL_holder_X6_holder
theorem dL_holder_0 : decode cL_holder 0 = .ok (.aload_n 3, 1) := by decide +kernel
theorem dL_holder_1 : decode cL_holder 1 = .ok (.iconst 0, 1) := by decide +kernel
theorem dL_holder_2 : decode cL_holder 2 = .ok (.aload_n 0, 1) := by decide +kernel
theorem dL_holder_3 : decode cL_holder 3 = .ok (.iload_n 1, 1) := by decide +kernel
theorem dL_holder_4 : decode cL_holder 4 = .ok (.iload_n 2, 1) := by decide +kernel
theorem dL_holder_5 : decode cL_holder 5 = .ok (.invokevirtual 69, 3) := by decide +kernel
theorem dL_holder_8 : decode cL_holder 8 = .ok (.i2l, 1) := by decide +kernel
theorem dL_holder_9 : decode cL_holder 9 = .ok (.lastore, 1) := by decide +kernel
theorem dL_holder_10 : decode cL_holder 10 = .ok (.goto 11, 3) := by decide +kernel
theorem dL_holder_13 : decode cL_holder 13 = .ok (.astore 4, 2) := by decide +kernel
theorem dL_holder_15 : decode cL_holder 15 = .ok (.iconst 1, 1) := by decide +kernel
theorem dL_holder_16 : decode cL_holder 16 = .ok (.ireturn, 1) := by decide +kernel
theorem dL_holder_17 : decode cL_holder 17 = .ok (.astore 4, 2) := by decide +kernel
theorem dL_holder_19 : decode cL_holder 19 = .ok (.iconst 2, 1) := by decide +kernel
theorem dL_holder_20 : decode cL_holder 20 = .ok (.ireturn, 1) := by decide +kernel
theorem dL_holder_21 : decode cL_holder 21 = .ok (.iconst 0, 1) := by decide +kernel
theorem dL_holder_22 : decode cL_holder 22 = .ok (.ireturn, 1) := by decide +kernel
set_option maxRecDepth 20000 in
theorem ggL_share_X6_share : GoodIn wsL_share wsX6_share := goodIn_ca (goodIn_ca (goodIn_r _ [7, 8, 9, 10, 11, 12, 13, 14, 15, 16, 17, 6, 18, 19, 20, 21, 22, 23, 24, 25, 26, 27, 28, 29, 30, 31, 32, 33, 34, 35, 36, 37, 38, 39, 40, 41, 42, 43, 44, 45, 46, 47, 48, 49, 50, 51] (by decide +kernel) (by decide +kernel)) (goodIn_sub (fun _ h => List.mem_cons_of_mem _ (List.mem_append_left _ (List.mem_append_right _ h))) (by decide +kernel))) (goodIn_sub (fun _ h => List.mem_cons_of_mem _ (List.mem_append_right _ h)) (by decide +kernel))
set_option maxRecDepth 20000 in
theorem gL_share_X6_share : GoodIn wsL_share (wsV RL 72 RX6 yX6_share wsX6_share) := goodIn_app (goodIn_of _ (by decide +kernel)) ggL_share_X6_share
theorem dL_share_0 : decode cL_share 0 = .ok (.aload_n 3, 1) := by decide +kernel
theorem dL_share_1 : decode cL_share 1 = .ok (.iconst 0, 1) := by decide +kernel
theorem dL_share_2 : decode cL_share 2 = .ok (.aload_n 0, 1) := by decide +kernel
theorem dL_share_3 : decode cL_share 3 = .ok (.iload_n 1, 1) := by decide +kernel
theorem dL_share_4 : decode cL_share 4 = .ok (.iload_n 2, 1) := by decide +kernel
theorem dL_share_5 : decode cL_share 5 = .ok (.invokevirtual 72, 3) := by decide +kernel
theorem dL_share_8 : decode cL_share 8 = .ok (.i2l, 1) := by decide +kernel
theorem dL_share_9 : decode cL_share 9 = .ok (.lastore, 1) := by decide +kernel
theorem dL_share_10 : decode cL_share 10 = .ok (.goto 11, 3) := by decide +kernel
theorem dL_share_13 : decode cL_share 13 = .ok (.astore 4, 2) := by decide +kernel
theorem dL_share_15 : decode cL_share 15 = .ok (.iconst 1, 1) := by decide +kernel
theorem dL_share_16 : decode cL_share 16 = .ok (.ireturn, 1) := by decide +kernel
theorem dL_share_17 : decode cL_share 17 = .ok (.astore 4, 2) := by decide +kernel
theorem dL_share_19 : decode cL_share 19 = .ok (.iconst 2, 1) := by decide +kernel
theorem dL_share_20 : decode cL_share 20 = .ok (.ireturn, 1) := by decide +kernel
theorem dL_share_21 : decode cL_share 21 = .ok (.iconst 0, 1) := by decide +kernel
theorem dL_share_22 : decode cL_share 22 = .ok (.ireturn, 1) := by decide +kernel
set_option maxRecDepth 20000 in
theorem ggL_law_X6_law : GoodIn wsL_law wsX6_law := goodIn_ca (goodIn_r _ [6, 7, 8, 9, 10, 11, 12, 13, 14, 15, 16, 17, 18, 19, 20, 21, 22, 23, 24, 25, 26, 27, 28, 29, 30, 31, 32, 33, 34, 35, 36, 37, 38, 39, 40, 41, 42, 43, 5, 44, 45, 46, 47, 48, 49, 50, 51, 52, 53, 54, 55, 56, 57, 58, 59, 60, 61, 62, 63, 64, 65, 66, 67, 68, 69, 70, 71, 72, 73, 74, 75, 76, 77, 78, 79, 80, 81, 82, 83, 84, 85, 86, 87, 88, 89, 90, 91, 92, 93, 94, 95, 96, 97, 98, 99, 100, 101, 102, 103, 104, 105, 106, 107, 108, 109, 110, 111, 112, 113, 114, 115, 116, 117, 118, 119, 120, 121, 122, 123, 124, 125, 126, 127, 128, 129, 130] (by decide +kernel) (by decide +kernel)) (goodIn_sub (fun _ h => List.mem_cons_of_mem _ (List.mem_append_right _ h)) (by decide +kernel))
set_option maxRecDepth 20000 in
theorem gL_law_X6_law : GoodIn wsL_law (wsV RL 77 RX6 yX6_law wsX6_law) := goodIn_app (goodIn_of _ (by decide +kernel)) ggL_law_X6_law
theorem dL_law_0 : decode cL_law 0 = .ok (.aload_n 1, 1) := by decide +kernel
theorem dL_law_1 : decode cL_law 1 = .ok (.iconst 0, 1) := by decide +kernel
theorem dL_law_2 : decode cL_law 2 = .ok (.aload_n 0, 1) := by decide +kernel
theorem dL_law_3 : decode cL_law 3 = .ok (.invokevirtual 77, 3) := by decide +kernel
theorem dL_law_6 : decode cL_law 6 = .ok (.i2l, 1) := by decide +kernel
theorem dL_law_7 : decode cL_law 7 = .ok (.lastore, 1) := by decide +kernel
theorem dL_law_8 : decode cL_law 8 = .ok (.goto 6, 3) := by decide +kernel
theorem dL_law_11 : decode cL_law 11 = .ok (.astore_n 2, 1) := by decide +kernel
theorem dL_law_12 : decode cL_law 12 = .ok (.iconst 1, 1) := by decide +kernel
theorem dL_law_13 : decode cL_law 13 = .ok (.ireturn, 1) := by decide +kernel
theorem dL_law_14 : decode cL_law 14 = .ok (.iconst 0, 1) := by decide +kernel
theorem dL_law_15 : decode cL_law 15 = .ok (.ireturn, 1) := by decide +kernel
set_option maxRecDepth 20000 in
theorem ggL_says_X6_says : GoodIn wsL_says wsX6_says := goodIn_ca (goodIn_r _ [6, 7, 8, 9, 10, 11, 12, 13, 14, 15, 16, 17, 18, 19, 20, 21, 22, 23, 24, 25] (by decide +kernel) (by decide +kernel)) (goodIn_sub (fun _ h => List.mem_cons_of_mem _ (List.mem_append_right _ h)) (by decide +kernel))
set_option maxRecDepth 20000 in
theorem gL_says_X6_says : GoodIn wsL_says (wsV RL 80 RX6 yX6_says wsX6_says) := goodIn_app (goodIn_of _ (by decide +kernel)) ggL_says_X6_says
theorem dL_says_0 : decode cL_says 0 = .ok (.aload_n 2, 1) := by decide +kernel
theorem dL_says_1 : decode cL_says 1 = .ok (.iconst 0, 1) := by decide +kernel
theorem dL_says_2 : decode cL_says 2 = .ok (.aload_n 0, 1) := by decide +kernel
theorem dL_says_3 : decode cL_says 3 = .ok (.iload_n 1, 1) := by decide +kernel
theorem dL_says_4 : decode cL_says 4 = .ok (.invokevirtual 80, 3) := by decide +kernel
theorem dL_says_7 : decode cL_says 7 = .ok (.i2l, 1) := by decide +kernel
theorem dL_says_8 : decode cL_says 8 = .ok (.lastore, 1) := by decide +kernel
theorem dL_says_9 : decode cL_says 9 = .ok (.goto 6, 3) := by decide +kernel
theorem dL_says_12 : decode cL_says 12 = .ok (.astore_n 3, 1) := by decide +kernel
theorem dL_says_13 : decode cL_says 13 = .ok (.iconst 1, 1) := by decide +kernel
theorem dL_says_14 : decode cL_says 14 = .ok (.ireturn, 1) := by decide +kernel
theorem dL_says_15 : decode cL_says 15 = .ok (.iconst 0, 1) := by decide +kernel
theorem dL_says_16 : decode cL_says 16 = .ok (.ireturn, 1) := by decide +kernel
set_option maxRecDepth 20000 in
theorem ggL_pays_X6_pays : GoodIn wsL_pays wsX6_pays := goodIn_ca (goodIn_ca (goodIn_ca (goodIn_r _ [8, 9, 10, 11, 12, 13, 14, 15, 7, 16, 17, 18, 19, 20, 21, 22, 23, 24, 25, 26, 27, 28, 29, 30, 31, 32, 33, 34, 35, 36, 37, 38, 39, 40, 41, 42, 43, 44, 45, 46, 47, 48, 49, 50, 51, 52, 53, 54, 55, 56, 57, 58, 59, 60, 61, 62, 63, 64, 65, 66, 67, 68, 69, 70, 71, 72, 73, 74, 75, 76, 77, 78, 79, 80, 81, 82, 83, 84, 85, 86, 87] (by decide +kernel) (by decide +kernel)) (goodIn_sub (fun _ h => List.mem_cons_of_mem _ (List.mem_append_left _ (List.mem_append_left _ (List.mem_append_right _ h)))) (by decide +kernel))) (goodIn_sub (fun _ h => List.mem_cons_of_mem _ (List.mem_append_left _ (List.mem_append_right _ h))) (by decide +kernel))) (goodIn_sub (fun _ h => List.mem_cons_of_mem _ (List.mem_append_right _ h)) (by decide +kernel))
set_option maxRecDepth 20000 in
theorem gL_pays_X6_pays : GoodIn wsL_pays (wsV RL 83 RX6 yX6_pays wsX6_pays) := goodIn_app (goodIn_of _ (by decide +kernel)) ggL_pays_X6_pays
theorem dL_pays_0 : decode cL_pays 0 = .ok (.aload 4, 2) := by decide +kernel
theorem dL_pays_2 : decode cL_pays 2 = .ok (.iconst 0, 1) := by decide +kernel
theorem dL_pays_3 : decode cL_pays 3 = .ok (.aload_n 0, 1) := by decide +kernel
theorem dL_pays_4 : decode cL_pays 4 = .ok (.iload_n 1, 1) := by decide +kernel
theorem dL_pays_5 : decode cL_pays 5 = .ok (.iload_n 2, 1) := by decide +kernel
theorem dL_pays_6 : decode cL_pays 6 = .ok (.iload_n 3, 1) := by decide +kernel
theorem dL_pays_7 : decode cL_pays 7 = .ok (.invokevirtual 83, 3) := by decide +kernel
theorem dL_pays_10 : decode cL_pays 10 = .ok (.i2l, 1) := by decide +kernel
theorem dL_pays_11 : decode cL_pays 11 = .ok (.lastore, 1) := by decide +kernel
theorem dL_pays_12 : decode cL_pays 12 = .ok (.goto 15, 3) := by decide +kernel
theorem dL_pays_15 : decode cL_pays 15 = .ok (.astore 5, 2) := by decide +kernel
theorem dL_pays_17 : decode cL_pays 17 = .ok (.iconst 1, 1) := by decide +kernel
theorem dL_pays_18 : decode cL_pays 18 = .ok (.ireturn, 1) := by decide +kernel
theorem dL_pays_19 : decode cL_pays 19 = .ok (.astore 5, 2) := by decide +kernel
theorem dL_pays_21 : decode cL_pays 21 = .ok (.iconst 2, 1) := by decide +kernel
theorem dL_pays_22 : decode cL_pays 22 = .ok (.ireturn, 1) := by decide +kernel
theorem dL_pays_23 : decode cL_pays 23 = .ok (.astore 5, 2) := by decide +kernel
theorem dL_pays_25 : decode cL_pays 25 = .ok (.iconst 3, 1) := by decide +kernel
theorem dL_pays_26 : decode cL_pays 26 = .ok (.ireturn, 1) := by decide +kernel
theorem dL_pays_27 : decode cL_pays 27 = .ok (.iconst 0, 1) := by decide +kernel
theorem dL_pays_28 : decode cL_pays 28 = .ok (.ireturn, 1) := by decide +kernel
set_option maxRecDepth 20000 in
theorem ggL_field_X6_field : GoodIn wsL_field wsX6_field := goodIn_ca (goodIn_r _ [6, 7, 8, 9, 10, 11, 12, 5, 13, 14, 15, 16, 17, 18, 19, 20, 21, 22, 23, 24, 25, 26, 27, 28, 29, 30, 31, 32, 33, 34, 35, 36, 37, 38, 39, 40, 41, 42, 43] (by decide +kernel) (by decide +kernel)) (goodIn_sub (fun _ h => List.mem_cons_of_mem _ (List.mem_append_right _ h)) (by decide +kernel))
set_option maxRecDepth 20000 in
theorem gL_field_X6_field : GoodIn wsL_field (wsV RL 86 RX6 yX6_field wsX6_field) := goodIn_app (goodIn_of _ (by decide +kernel)) ggL_field_X6_field
theorem dL_field_0 : decode cL_field 0 = .ok (.aload 4, 2) := by decide +kernel
theorem dL_field_2 : decode cL_field 2 = .ok (.iconst 0, 1) := by decide +kernel
theorem dL_field_3 : decode cL_field 3 = .ok (.aload_n 0, 1) := by decide +kernel
theorem dL_field_4 : decode cL_field 4 = .ok (.iload_n 1, 1) := by decide +kernel
theorem dL_field_5 : decode cL_field 5 = .ok (.iload_n 2, 1) := by decide +kernel
theorem dL_field_6 : decode cL_field 6 = .ok (.iload_n 3, 1) := by decide +kernel
theorem dL_field_7 : decode cL_field 7 = .ok (.invokevirtual 86, 3) := by decide +kernel
theorem dL_field_10 : decode cL_field 10 = .ok (.i2l, 1) := by decide +kernel
theorem dL_field_11 : decode cL_field 11 = .ok (.lastore, 1) := by decide +kernel
theorem dL_field_12 : decode cL_field 12 = .ok (.goto 7, 3) := by decide +kernel
theorem dL_field_15 : decode cL_field 15 = .ok (.astore 5, 2) := by decide +kernel
theorem dL_field_17 : decode cL_field 17 = .ok (.iconst 1, 1) := by decide +kernel
theorem dL_field_18 : decode cL_field 18 = .ok (.ireturn, 1) := by decide +kernel
theorem dL_field_19 : decode cL_field 19 = .ok (.iconst 0, 1) := by decide +kernel
theorem dL_field_20 : decode cL_field 20 = .ok (.ireturn, 1) := by decide +kernel
