theorem dX0_init_0 : decode cX0_init 0 = .ok (.aload_n 0, 1) := by decide +kernel
theorem dX0_init_1 : decode cX0_init 1 = .ok (.invokespecial 3, 3) := by decide +kernel
theorem dX0_init_4 : decode cX0_init 4 = .ok (.aload_n 0, 1) := by decide +kernel
theorem dX0_init_5 : decode cX0_init 5 = .ok (.bipush 20, 2) := by decide +kernel
theorem dX0_init_7 : decode cX0_init 7 = .ok (.newarray .int, 2) := by decide +kernel
theorem dX0_init_9 : decode cX0_init 9 = .ok (.putfield 9, 3) := by decide +kernel
theorem dX0_init_12 : decode cX0_init 12 = .ok (.aload_n 0, 1) := by decide +kernel
theorem dX0_init_13 : decode cX0_init 13 = .ok (.bipush 20, 2) := by decide +kernel
theorem dX0_init_15 : decode cX0_init 15 = .ok (.newarray .int, 2) := by decide +kernel
theorem dX0_init_17 : decode cX0_init 17 = .ok (.putfield 15, 3) := by decide +kernel
theorem dX0_init_20 : decode cX0_init 20 = .ok (.aload_n 0, 1) := by decide +kernel
theorem dX0_init_21 : decode cX0_init 21 = .ok (.bipush 20, 2) := by decide +kernel
theorem dX0_init_23 : decode cX0_init 23 = .ok (.newarray .int, 2) := by decide +kernel
theorem dX0_init_25 : decode cX0_init 25 = .ok (.putfield 18, 3) := by decide +kernel
theorem dX0_init_28 : decode cX0_init 28 = .ok (.aload_n 0, 1) := by decide +kernel
theorem dX0_init_29 : decode cX0_init 29 = .ok (.bipush 20, 2) := by decide +kernel
theorem dX0_init_31 : decode cX0_init 31 = .ok (.newarray .boolean, 2) := by decide +kernel
theorem dX0_init_33 : decode cX0_init 33 = .ok (.putfield 21, 3) := by decide +kernel
theorem dX0_init_36 : decode cX0_init 36 = .ok (.return_, 1) := by decide +kernel
theorem dX0_isDug_0 : decode cX0_isDug 0 = .ok (.aload_n 0, 1) := by decide +kernel
theorem dX0_isDug_1 : decode cX0_isDug 1 = .ok (.getfield 25, 3) := by decide +kernel
theorem dX0_isDug_4 : decode cX0_isDug 4 = .ok (.ifCond .le 7, 3) := by decide +kernel
theorem dX0_isDug_7 : decode cX0_isDug 7 = .ok (.iconst 1, 1) := by decide +kernel
theorem dX0_isDug_8 : decode cX0_isDug 8 = .ok (.goto 4, 3) := by decide +kernel
theorem dX0_isDug_11 : decode cX0_isDug 11 = .ok (.iconst 0, 1) := by decide +kernel
theorem dX0_isDug_12 : decode cX0_isDug 12 = .ok (.ireturn, 1) := by decide +kernel
theorem dX0_lastFloor_0 : decode cX0_lastFloor 0 = .ok (.aload_n 0, 1) := by decide +kernel
theorem dX0_lastFloor_1 : decode cX0_lastFloor 1 = .ok (.getfield 29, 3) := by decide +kernel
theorem dX0_lastFloor_4 : decode cX0_lastFloor 4 = .ok (.ifCond .le 17, 3) := by decide +kernel
theorem dX0_lastFloor_7 : decode cX0_lastFloor 7 = .ok (.aload_n 0, 1) := by decide +kernel
theorem dX0_lastFloor_8 : decode cX0_lastFloor 8 = .ok (.getfield 18, 3) := by decide +kernel
theorem dX0_lastFloor_11 : decode cX0_lastFloor 11 = .ok (.aload_n 0, 1) := by decide +kernel
theorem dX0_lastFloor_12 : decode cX0_lastFloor 12 = .ok (.getfield 29, 3) := by decide +kernel
theorem dX0_lastFloor_15 : decode cX0_lastFloor 15 = .ok (.iconst 1, 1) := by decide +kernel
theorem dX0_lastFloor_16 : decode cX0_lastFloor 16 = .ok (.isub, 1) := by decide +kernel
theorem dX0_lastFloor_17 : decode cX0_lastFloor 17 = .ok (.iaload, 1) := by decide +kernel
theorem dX0_lastFloor_18 : decode cX0_lastFloor 18 = .ok (.goto 4, 3) := by decide +kernel
theorem dX0_lastFloor_21 : decode cX0_lastFloor 21 = .ok (.iconst 0, 1) := by decide +kernel
theorem dX0_lastFloor_22 : decode cX0_lastFloor 22 = .ok (.ireturn, 1) := by decide +kernel
theorem dX0_addWell_0 : decode cX0_addWell 0 = .ok (.aload_n 0, 1) := by decide +kernel
theorem dX0_addWell_1 : decode cX0_addWell 1 = .ok (.getfield 29, 3) := by decide +kernel
theorem dX0_addWell_4 : decode cX0_addWell 4 = .ok (.bipush 20, 2) := by decide +kernel
theorem dX0_addWell_6 : decode cX0_addWell 6 = .ok (.if_icmp .ge 43, 3) := by decide +kernel
theorem dX0_addWell_9 : decode cX0_addWell 9 = .ok (.aload_n 0, 1) := by decide +kernel
theorem dX0_addWell_10 : decode cX0_addWell 10 = .ok (.getfield 9, 3) := by decide +kernel
theorem dX0_addWell_13 : decode cX0_addWell 13 = .ok (.aload_n 0, 1) := by decide +kernel
theorem dX0_addWell_14 : decode cX0_addWell 14 = .ok (.getfield 29, 3) := by decide +kernel
theorem dX0_addWell_17 : decode cX0_addWell 17 = .ok (.iload_n 1, 1) := by decide +kernel
theorem dX0_addWell_18 : decode cX0_addWell 18 = .ok (.iastore, 1) := by decide +kernel
theorem dX0_addWell_19 : decode cX0_addWell 19 = .ok (.aload_n 0, 1) := by decide +kernel
theorem dX0_addWell_20 : decode cX0_addWell 20 = .ok (.getfield 15, 3) := by decide +kernel
theorem dX0_addWell_23 : decode cX0_addWell 23 = .ok (.aload_n 0, 1) := by decide +kernel
theorem dX0_addWell_24 : decode cX0_addWell 24 = .ok (.getfield 29, 3) := by decide +kernel
theorem dX0_addWell_27 : decode cX0_addWell 27 = .ok (.iload_n 2, 1) := by decide +kernel
theorem dX0_addWell_28 : decode cX0_addWell 28 = .ok (.iastore, 1) := by decide +kernel
theorem dX0_addWell_29 : decode cX0_addWell 29 = .ok (.aload_n 0, 1) := by decide +kernel
theorem dX0_addWell_30 : decode cX0_addWell 30 = .ok (.getfield 18, 3) := by decide +kernel
theorem dX0_addWell_33 : decode cX0_addWell 33 = .ok (.aload_n 0, 1) := by decide +kernel
theorem dX0_addWell_34 : decode cX0_addWell 34 = .ok (.getfield 29, 3) := by decide +kernel
theorem dX0_addWell_37 : decode cX0_addWell 37 = .ok (.iload_n 3, 1) := by decide +kernel
theorem dX0_addWell_38 : decode cX0_addWell 38 = .ok (.iastore, 1) := by decide +kernel
theorem dX0_addWell_39 : decode cX0_addWell 39 = .ok (.aload_n 0, 1) := by decide +kernel
theorem dX0_addWell_40 : decode cX0_addWell 40 = .ok (.dup, 1) := by decide +kernel
theorem dX0_addWell_41 : decode cX0_addWell 41 = .ok (.getfield 29, 3) := by decide +kernel
theorem dX0_addWell_44 : decode cX0_addWell 44 = .ok (.iconst 1, 1) := by decide +kernel
theorem dX0_addWell_45 : decode cX0_addWell 45 = .ok (.iadd, 1) := by decide +kernel
theorem dX0_addWell_46 : decode cX0_addWell 46 = .ok (.putfield 29, 3) := by decide +kernel
theorem dX0_addWell_49 : decode cX0_addWell 49 = .ok (.return_, 1) := by decide +kernel
theorem dX0_runningWells_0 : decode cX0_runningWells 0 = .ok (.iconst 0, 1) := by decide +kernel
theorem dX0_runningWells_1 : decode cX0_runningWells 1 = .ok (.istore_n 1, 1) := by decide +kernel
theorem dX0_runningWells_2 : decode cX0_runningWells 2 = .ok (.iload_n 1, 1) := by decide +kernel
theorem dX0_runningWells_3 : decode cX0_runningWells 3 = .ok (.aload_n 0, 1) := by decide +kernel
theorem dX0_runningWells_4 : decode cX0_runningWells 4 = .ok (.getfield 29, 3) := by decide +kernel
theorem dX0_runningWells_7 : decode cX0_runningWells 7 = .ok (.if_icmp .ge 20, 3) := by decide +kernel
theorem dX0_runningWells_10 : decode cX0_runningWells 10 = .ok (.aload_n 0, 1) := by decide +kernel
theorem dX0_runningWells_11 : decode cX0_runningWells 11 = .ok (.getfield 21, 3) := by decide +kernel
theorem dX0_runningWells_14 : decode cX0_runningWells 14 = .ok (.iload_n 1, 1) := by decide +kernel
theorem dX0_runningWells_15 : decode cX0_runningWells 15 = .ok (.baload, 1) := by decide +kernel
theorem dX0_runningWells_16 : decode cX0_runningWells 16 = .ok (.ifCond .eq 5, 3) := by decide +kernel
theorem dX0_runningWells_19 : decode cX0_runningWells 19 = .ok (.iload_n 1, 1) := by decide +kernel
theorem dX0_runningWells_20 : decode cX0_runningWells 20 = .ok (.ireturn, 1) := by decide +kernel
theorem dX0_runningWells_21 : decode cX0_runningWells 21 = .ok (.iinc 1 1, 3) := by decide +kernel
theorem dX0_runningWells_24 : decode cX0_runningWells 24 = .ok (.goto (-22), 3) := by decide +kernel
theorem dX0_runningWells_27 : decode cX0_runningWells 27 = .ok (.aload_n 0, 1) := by decide +kernel
theorem dX0_runningWells_28 : decode cX0_runningWells 28 = .ok (.getfield 29, 3) := by decide +kernel
theorem dX0_runningWells_31 : decode cX0_runningWells 31 = .ok (.ireturn, 1) := by decide +kernel
theorem dX0_leaksBelow_0 : decode cX0_leaksBelow 0 = .ok (.iload_n 1, 1) := by decide +kernel
theorem dX0_leaksBelow_1 : decode cX0_leaksBelow 1 = .ok (.iconst 1, 1) := by decide +kernel
theorem dX0_leaksBelow_2 : decode cX0_leaksBelow 2 = .ok (.if_icmp .lt 11, 3) := by decide +kernel
theorem dX0_leaksBelow_5 : decode cX0_leaksBelow 5 = .ok (.iload_n 1, 1) := by decide +kernel
theorem dX0_leaksBelow_6 : decode cX0_leaksBelow 6 = .ok (.aload_n 0, 1) := by decide +kernel
theorem dX0_leaksBelow_7 : decode cX0_leaksBelow 7 = .ok (.getfield 29, 3) := by decide +kernel
theorem dX0_leaksBelow_10 : decode cX0_leaksBelow 10 = .ok (.if_icmp .lt 5, 3) := by decide +kernel
theorem dX0_leaksBelow_13 : decode cX0_leaksBelow 13 = .ok (.iconst 0, 1) := by decide +kernel
theorem dX0_leaksBelow_14 : decode cX0_leaksBelow 14 = .ok (.ireturn, 1) := by decide +kernel
theorem dX0_leaksBelow_15 : decode cX0_leaksBelow 15 = .ok (.aload_n 0, 1) := by decide +kernel
theorem dX0_leaksBelow_16 : decode cX0_leaksBelow 16 = .ok (.getfield 18, 3) := by decide +kernel
theorem dX0_leaksBelow_19 : decode cX0_leaksBelow 19 = .ok (.iload_n 1, 1) := by decide +kernel
theorem dX0_leaksBelow_20 : decode cX0_leaksBelow 20 = .ok (.iaload, 1) := by decide +kernel
theorem dX0_leaksBelow_21 : decode cX0_leaksBelow 21 = .ok (.aload_n 0, 1) := by decide +kernel
theorem dX0_leaksBelow_22 : decode cX0_leaksBelow 22 = .ok (.getfield 18, 3) := by decide +kernel
theorem dX0_leaksBelow_25 : decode cX0_leaksBelow 25 = .ok (.iload_n 1, 1) := by decide +kernel
theorem dX0_leaksBelow_26 : decode cX0_leaksBelow 26 = .ok (.iconst 1, 1) := by decide +kernel
theorem dX0_leaksBelow_27 : decode cX0_leaksBelow 27 = .ok (.isub, 1) := by decide +kernel
theorem dX0_leaksBelow_28 : decode cX0_leaksBelow 28 = .ok (.iaload, 1) := by decide +kernel
theorem dX0_leaksBelow_29 : decode cX0_leaksBelow 29 = .ok (.isub, 1) := by decide +kernel
theorem dX0_leaksBelow_30 : decode cX0_leaksBelow 30 = .ok (.istore_n 2, 1) := by decide +kernel
theorem dX0_leaksBelow_31 : decode cX0_leaksBelow 31 = .ok (.iload_n 2, 1) := by decide +kernel
theorem dX0_leaksBelow_32 : decode cX0_leaksBelow 32 = .ok (.ifCond .eq 9, 3) := by decide +kernel
theorem dX0_leaksBelow_35 : decode cX0_leaksBelow 35 = .ok (.iload_n 2, 1) := by decide +kernel
theorem dX0_leaksBelow_36 : decode cX0_leaksBelow 36 = .ok (.bipush 20, 2) := by decide +kernel
theorem dX0_leaksBelow_38 : decode cX0_leaksBelow 38 = .ok (.if_icmp .le 7, 3) := by decide +kernel
theorem dX0_leaksBelow_41 : decode cX0_leaksBelow 41 = .ok (.iconst 1, 1) := by decide +kernel
theorem dX0_leaksBelow_42 : decode cX0_leaksBelow 42 = .ok (.goto 4, 3) := by decide +kernel
theorem dX0_leaksBelow_45 : decode cX0_leaksBelow 45 = .ok (.iconst 0, 1) := by decide +kernel
theorem dX0_leaksBelow_46 : decode cX0_leaksBelow 46 = .ok (.ireturn, 1) := by decide +kernel
theorem dX1_init_0 : decode cX1_init 0 = .ok (.aload_n 0, 1) := by decide +kernel
theorem dX1_init_1 : decode cX1_init 1 = .ok (.invokespecial 3, 3) := by decide +kernel
theorem dX1_init_4 : decode cX1_init 4 = .ok (.aload_n 0, 1) := by decide +kernel
theorem dX1_init_5 : decode cX1_init 5 = .ok (.bipush 9, 2) := by decide +kernel
theorem dX1_init_7 : decode cX1_init 7 = .ok (.newarray .int, 2) := by decide +kernel
theorem dX1_init_9 : decode cX1_init 9 = .ok (.putfield 9, 3) := by decide +kernel
theorem dX1_init_12 : decode cX1_init 12 = .ok (.aload_n 0, 1) := by decide +kernel
theorem dX1_init_13 : decode cX1_init 13 = .ok (.bipush 9, 2) := by decide +kernel
theorem dX1_init_15 : decode cX1_init 15 = .ok (.newarray .int, 2) := by decide +kernel
theorem dX1_init_17 : decode cX1_init 17 = .ok (.putfield 15, 3) := by decide +kernel
theorem dX1_init_20 : decode cX1_init 20 = .ok (.aload_n 0, 1) := by decide +kernel
theorem dX1_init_21 : decode cX1_init 21 = .ok (.bipush 9, 2) := by decide +kernel
theorem dX1_init_23 : decode cX1_init 23 = .ok (.newarray .int, 2) := by decide +kernel
theorem dX1_init_25 : decode cX1_init 25 = .ok (.putfield 18, 3) := by decide +kernel
theorem dX1_init_28 : decode cX1_init 28 = .ok (.aload_n 0, 1) := by decide +kernel
theorem dX1_init_29 : decode cX1_init 29 = .ok (.sipush 512, 3) := by decide +kernel
theorem dX1_init_32 : decode cX1_init 32 = .ok (.newarray .int, 2) := by decide +kernel
theorem dX1_init_34 : decode cX1_init 34 = .ok (.putfield 21, 3) := by decide +kernel
theorem dX1_init_37 : decode cX1_init 37 = .ok (.return_, 1) := by decide +kernel
theorem dX1_addField_0 : decode cX1_addField 0 = .ok (.aload_n 0, 1) := by decide +kernel
theorem dX1_addField_1 : decode cX1_addField 1 = .ok (.getfield 24, 3) := by decide +kernel
theorem dX1_addField_4 : decode cX1_addField 4 = .ok (.bipush 9, 2) := by decide +kernel
theorem dX1_addField_6 : decode cX1_addField 6 = .ok (.if_icmp .ge 43, 3) := by decide +kernel
theorem dX1_addField_9 : decode cX1_addField 9 = .ok (.aload_n 0, 1) := by decide +kernel
theorem dX1_addField_10 : decode cX1_addField 10 = .ok (.getfield 9, 3) := by decide +kernel
theorem dX1_addField_13 : decode cX1_addField 13 = .ok (.aload_n 0, 1) := by decide +kernel
theorem dX1_addField_14 : decode cX1_addField 14 = .ok (.getfield 24, 3) := by decide +kernel
theorem dX1_addField_17 : decode cX1_addField 17 = .ok (.iload_n 1, 1) := by decide +kernel
theorem dX1_addField_18 : decode cX1_addField 18 = .ok (.iastore, 1) := by decide +kernel
theorem dX1_addField_19 : decode cX1_addField 19 = .ok (.aload_n 0, 1) := by decide +kernel
theorem dX1_addField_20 : decode cX1_addField 20 = .ok (.getfield 15, 3) := by decide +kernel
theorem dX1_addField_23 : decode cX1_addField 23 = .ok (.aload_n 0, 1) := by decide +kernel
theorem dX1_addField_24 : decode cX1_addField 24 = .ok (.getfield 24, 3) := by decide +kernel
theorem dX1_addField_27 : decode cX1_addField 27 = .ok (.iload_n 2, 1) := by decide +kernel
theorem dX1_addField_28 : decode cX1_addField 28 = .ok (.iastore, 1) := by decide +kernel
theorem dX1_addField_29 : decode cX1_addField 29 = .ok (.aload_n 0, 1) := by decide +kernel
theorem dX1_addField_30 : decode cX1_addField 30 = .ok (.getfield 18, 3) := by decide +kernel
theorem dX1_addField_33 : decode cX1_addField 33 = .ok (.aload_n 0, 1) := by decide +kernel
theorem dX1_addField_34 : decode cX1_addField 34 = .ok (.getfield 24, 3) := by decide +kernel
theorem dX1_addField_37 : decode cX1_addField 37 = .ok (.iload_n 3, 1) := by decide +kernel
theorem dX1_addField_38 : decode cX1_addField 38 = .ok (.iastore, 1) := by decide +kernel
theorem dX1_addField_39 : decode cX1_addField 39 = .ok (.aload_n 0, 1) := by decide +kernel
theorem dX1_addField_40 : decode cX1_addField 40 = .ok (.dup, 1) := by decide +kernel
theorem dX1_addField_41 : decode cX1_addField 41 = .ok (.getfield 24, 3) := by decide +kernel
theorem dX1_addField_44 : decode cX1_addField 44 = .ok (.iconst 1, 1) := by decide +kernel
theorem dX1_addField_45 : decode cX1_addField 45 = .ok (.iadd, 1) := by decide +kernel
theorem dX1_addField_46 : decode cX1_addField 46 = .ok (.putfield 24, 3) := by decide +kernel
theorem dX1_addField_49 : decode cX1_addField 49 = .ok (.return_, 1) := by decide +kernel
set_option maxRecDepth 20000 in
theorem ggX1_leastLoss_X1_minutesOf : GoodIn wsX1_leastLoss wsX1_minutesOf := goodIn_r _ [17, 1, 18, 19, 20, 21, 22, 23] (by decide +kernel) (by decide +kernel)
set_option maxRecDepth 20000 in
theorem gX1_leastLoss_X1_minutesOf : GoodIn wsX1_leastLoss (wsV RX1 28 RX1 yX1_minutesOf wsX1_minutesOf) := goodIn_app (goodIn_of _ (by decide +kernel)) ggX1_leastLoss_X1_minutesOf
theorem dX1_leastLoss_0 : decode cX1_leastLoss 0 = .ok (.iconst 1, 1) := by decide +kernel
theorem dX1_leastLoss_1 : decode cX1_leastLoss 1 = .ok (.aload_n 0, 1) := by decide +kernel
theorem dX1_leastLoss_2 : decode cX1_leastLoss 2 = .ok (.getfield 24, 3) := by decide +kernel
theorem dX1_leastLoss_5 : decode cX1_leastLoss 5 = .ok (.ishl, 1) := by decide +kernel
theorem dX1_leastLoss_6 : decode cX1_leastLoss 6 = .ok (.istore_n 1, 1) := by decide +kernel
theorem dX1_leastLoss_7 : decode cX1_leastLoss 7 = .ok (.aload_n 0, 1) := by decide +kernel
theorem dX1_leastLoss_8 : decode cX1_leastLoss 8 = .ok (.getfield 21, 3) := by decide +kernel
theorem dX1_leastLoss_11 : decode cX1_leastLoss 11 = .ok (.iconst 0, 1) := by decide +kernel
theorem dX1_leastLoss_12 : decode cX1_leastLoss 12 = .ok (.iconst 0, 1) := by decide +kernel
theorem dX1_leastLoss_13 : decode cX1_leastLoss 13 = .ok (.iastore, 1) := by decide +kernel
theorem dX1_leastLoss_14 : decode cX1_leastLoss 14 = .ok (.iconst 1, 1) := by decide +kernel
theorem dX1_leastLoss_15 : decode cX1_leastLoss 15 = .ok (.istore_n 2, 1) := by decide +kernel
theorem dX1_leastLoss_16 : decode cX1_leastLoss 16 = .ok (.iload_n 2, 1) := by decide +kernel
theorem dX1_leastLoss_17 : decode cX1_leastLoss 17 = .ok (.iload_n 1, 1) := by decide +kernel
theorem dX1_leastLoss_18 : decode cX1_leastLoss 18 = .ok (.if_icmp .ge 103, 3) := by decide +kernel
theorem dX1_leastLoss_21 : decode cX1_leastLoss 21 = .ok (.aload_n 0, 1) := by decide +kernel
theorem dX1_leastLoss_22 : decode cX1_leastLoss 22 = .ok (.iload_n 2, 1) := by decide +kernel
theorem dX1_leastLoss_23 : decode cX1_leastLoss 23 = .ok (.invokevirtual 28, 3) := by decide +kernel
theorem dX1_leastLoss_26 : decode cX1_leastLoss 26 = .ok (.istore_n 3, 1) := by decide +kernel
theorem dX1_leastLoss_27 : decode cX1_leastLoss 27 = .ok (.aload_n 0, 1) := by decide +kernel
theorem dX1_leastLoss_28 : decode cX1_leastLoss 28 = .ok (.getfield 21, 3) := by decide +kernel
theorem dX1_leastLoss_31 : decode cX1_leastLoss 31 = .ok (.iload_n 2, 1) := by decide +kernel
theorem dX1_leastLoss_32 : decode cX1_leastLoss 32 = .ok (.ldc 32, 2) := by decide +kernel
theorem dX1_leastLoss_34 : decode cX1_leastLoss 34 = .ok (.iastore, 1) := by decide +kernel
theorem dX1_leastLoss_35 : decode cX1_leastLoss 35 = .ok (.iconst 0, 1) := by decide +kernel
theorem dX1_leastLoss_36 : decode cX1_leastLoss 36 = .ok (.istore 4, 2) := by decide +kernel
theorem dX1_leastLoss_38 : decode cX1_leastLoss 38 = .ok (.iload 4, 2) := by decide +kernel
theorem dX1_leastLoss_40 : decode cX1_leastLoss 40 = .ok (.aload_n 0, 1) := by decide +kernel
theorem dX1_leastLoss_41 : decode cX1_leastLoss 41 = .ok (.getfield 24, 3) := by decide +kernel
theorem dX1_leastLoss_44 : decode cX1_leastLoss 44 = .ok (.if_icmp .ge 71, 3) := by decide +kernel
theorem dX1_leastLoss_47 : decode cX1_leastLoss 47 = .ok (.iload_n 2, 1) := by decide +kernel
theorem dX1_leastLoss_48 : decode cX1_leastLoss 48 = .ok (.iload 4, 2) := by decide +kernel
theorem dX1_leastLoss_50 : decode cX1_leastLoss 50 = .ok (.ishr, 1) := by decide +kernel
theorem dX1_leastLoss_51 : decode cX1_leastLoss 51 = .ok (.iconst 1, 1) := by decide +kernel
theorem dX1_leastLoss_52 : decode cX1_leastLoss 52 = .ok (.iand, 1) := by decide +kernel
theorem dX1_leastLoss_53 : decode cX1_leastLoss 53 = .ok (.iconst 1, 1) := by decide +kernel
theorem dX1_leastLoss_54 : decode cX1_leastLoss 54 = .ok (.if_icmp .ne 55, 3) := by decide +kernel
theorem dX1_leastLoss_57 : decode cX1_leastLoss 57 = .ok (.aload_n 0, 1) := by decide +kernel
theorem dX1_leastLoss_58 : decode cX1_leastLoss 58 = .ok (.getfield 18, 3) := by decide +kernel
theorem dX1_leastLoss_61 : decode cX1_leastLoss 61 = .ok (.iload 4, 2) := by decide +kernel
theorem dX1_leastLoss_63 : decode cX1_leastLoss 63 = .ok (.iaload, 1) := by decide +kernel
theorem dX1_leastLoss_64 : decode cX1_leastLoss 64 = .ok (.iconst 0, 1) := by decide +kernel
theorem dX1_leastLoss_65 : decode cX1_leastLoss 65 = .ok (.iload_n 3, 1) := by decide +kernel
theorem dX1_leastLoss_66 : decode cX1_leastLoss 66 = .ok (.aload_n 0, 1) := by decide +kernel
theorem dX1_leastLoss_67 : decode cX1_leastLoss 67 = .ok (.getfield 15, 3) := by decide +kernel
theorem dX1_leastLoss_70 : decode cX1_leastLoss 70 = .ok (.iload 4, 2) := by decide +kernel
theorem dX1_leastLoss_72 : decode cX1_leastLoss 72 = .ok (.iaload, 1) := by decide +kernel
theorem dX1_leastLoss_73 : decode cX1_leastLoss 73 = .ok (.isub, 1) := by decide +kernel
theorem dX1_leastLoss_74 : decode cX1_leastLoss 74 = .ok (.invokestatic 33, 3) := by decide +kernel
theorem dX1_leastLoss_77 : decode cX1_leastLoss 77 = .ok (.imul, 1) := by decide +kernel
theorem dX1_leastLoss_78 : decode cX1_leastLoss 78 = .ok (.istore 5, 2) := by decide +kernel
theorem dX1_leastLoss_80 : decode cX1_leastLoss 80 = .ok (.aload_n 0, 1) := by decide +kernel
theorem dX1_leastLoss_81 : decode cX1_leastLoss 81 = .ok (.getfield 21, 3) := by decide +kernel
theorem dX1_leastLoss_84 : decode cX1_leastLoss 84 = .ok (.iload_n 2, 1) := by decide +kernel
theorem dX1_leastLoss_85 : decode cX1_leastLoss 85 = .ok (.aload_n 0, 1) := by decide +kernel
theorem dX1_leastLoss_86 : decode cX1_leastLoss 86 = .ok (.getfield 21, 3) := by decide +kernel
theorem dX1_leastLoss_89 : decode cX1_leastLoss 89 = .ok (.iload_n 2, 1) := by decide +kernel
theorem dX1_leastLoss_90 : decode cX1_leastLoss 90 = .ok (.iaload, 1) := by decide +kernel
theorem dX1_leastLoss_91 : decode cX1_leastLoss 91 = .ok (.aload_n 0, 1) := by decide +kernel
theorem dX1_leastLoss_92 : decode cX1_leastLoss 92 = .ok (.getfield 21, 3) := by decide +kernel
theorem dX1_leastLoss_95 : decode cX1_leastLoss 95 = .ok (.iload_n 2, 1) := by decide +kernel
theorem dX1_leastLoss_96 : decode cX1_leastLoss 96 = .ok (.iconst 1, 1) := by decide +kernel
theorem dX1_leastLoss_97 : decode cX1_leastLoss 97 = .ok (.iload 4, 2) := by decide +kernel
theorem dX1_leastLoss_99 : decode cX1_leastLoss 99 = .ok (.ishl, 1) := by decide +kernel
theorem dX1_leastLoss_100 : decode cX1_leastLoss 100 = .ok (.ixor, 1) := by decide +kernel
theorem dX1_leastLoss_101 : decode cX1_leastLoss 101 = .ok (.iaload, 1) := by decide +kernel
theorem dX1_leastLoss_102 : decode cX1_leastLoss 102 = .ok (.iload 5, 2) := by decide +kernel
theorem dX1_leastLoss_104 : decode cX1_leastLoss 104 = .ok (.iadd, 1) := by decide +kernel
theorem dX1_leastLoss_105 : decode cX1_leastLoss 105 = .ok (.invokestatic 39, 3) := by decide +kernel
theorem dX1_leastLoss_108 : decode cX1_leastLoss 108 = .ok (.iastore, 1) := by decide +kernel
theorem dX1_leastLoss_109 : decode cX1_leastLoss 109 = .ok (.iinc 4 1, 3) := by decide +kernel
theorem dX1_leastLoss_112 : decode cX1_leastLoss 112 = .ok (.goto (-74), 3) := by decide +kernel
theorem dX1_leastLoss_115 : decode cX1_leastLoss 115 = .ok (.iinc 2 1, 3) := by decide +kernel
theorem dX1_leastLoss_118 : decode cX1_leastLoss 118 = .ok (.goto (-102), 3) := by decide +kernel
theorem dX1_leastLoss_121 : decode cX1_leastLoss 121 = .ok (.aload_n 0, 1) := by decide +kernel
theorem dX1_leastLoss_122 : decode cX1_leastLoss 122 = .ok (.getfield 21, 3) := by decide +kernel
theorem dX1_leastLoss_125 : decode cX1_leastLoss 125 = .ok (.iload_n 1, 1) := by decide +kernel
theorem dX1_leastLoss_126 : decode cX1_leastLoss 126 = .ok (.iconst 1, 1) := by decide +kernel
theorem dX1_leastLoss_127 : decode cX1_leastLoss 127 = .ok (.isub, 1) := by decide +kernel
theorem dX1_leastLoss_128 : decode cX1_leastLoss 128 = .ok (.iaload, 1) := by decide +kernel
theorem dX1_leastLoss_129 : decode cX1_leastLoss 129 = .ok (.ireturn, 1) := by decide +kernel
theorem dX1_minutesOf_0 : decode cX1_minutesOf 0 = .ok (.iconst 0, 1) := by decide +kernel
theorem dX1_minutesOf_1 : decode cX1_minutesOf 1 = .ok (.istore_n 2, 1) := by decide +kernel
theorem dX1_minutesOf_2 : decode cX1_minutesOf 2 = .ok (.iconst 0, 1) := by decide +kernel
theorem dX1_minutesOf_3 : decode cX1_minutesOf 3 = .ok (.istore_n 3, 1) := by decide +kernel
theorem dX1_minutesOf_4 : decode cX1_minutesOf 4 = .ok (.iload_n 3, 1) := by decide +kernel
theorem dX1_minutesOf_5 : decode cX1_minutesOf 5 = .ok (.aload_n 0, 1) := by decide +kernel
theorem dX1_minutesOf_6 : decode cX1_minutesOf 6 = .ok (.getfield 24, 3) := by decide +kernel
theorem dX1_minutesOf_9 : decode cX1_minutesOf 9 = .ok (.if_icmp .ge 31, 3) := by decide +kernel
theorem dX1_minutesOf_12 : decode cX1_minutesOf 12 = .ok (.iload_n 2, 1) := by decide +kernel
theorem dX1_minutesOf_13 : decode cX1_minutesOf 13 = .ok (.iload_n 1, 1) := by decide +kernel
theorem dX1_minutesOf_14 : decode cX1_minutesOf 14 = .ok (.iload_n 3, 1) := by decide +kernel
theorem dX1_minutesOf_15 : decode cX1_minutesOf 15 = .ok (.ishr, 1) := by decide +kernel
theorem dX1_minutesOf_16 : decode cX1_minutesOf 16 = .ok (.iconst 1, 1) := by decide +kernel
theorem dX1_minutesOf_17 : decode cX1_minutesOf 17 = .ok (.iand, 1) := by decide +kernel
theorem dX1_minutesOf_18 : decode cX1_minutesOf 18 = .ok (.iconst 1, 1) := by decide +kernel
theorem dX1_minutesOf_19 : decode cX1_minutesOf 19 = .ok (.if_icmp .ne 12, 3) := by decide +kernel
theorem dX1_minutesOf_22 : decode cX1_minutesOf 22 = .ok (.aload_n 0, 1) := by decide +kernel
theorem dX1_minutesOf_23 : decode cX1_minutesOf 23 = .ok (.getfield 9, 3) := by decide +kernel
theorem dX1_minutesOf_26 : decode cX1_minutesOf 26 = .ok (.iload_n 3, 1) := by decide +kernel
theorem dX1_minutesOf_27 : decode cX1_minutesOf 27 = .ok (.iaload, 1) := by decide +kernel
theorem dX1_minutesOf_28 : decode cX1_minutesOf 28 = .ok (.goto 4, 3) := by decide +kernel
theorem dX1_minutesOf_31 : decode cX1_minutesOf 31 = .ok (.iconst 0, 1) := by decide +kernel
theorem dX1_minutesOf_32 : decode cX1_minutesOf 32 = .ok (.iadd, 1) := by decide +kernel
theorem dX1_minutesOf_33 : decode cX1_minutesOf 33 = .ok (.istore_n 2, 1) := by decide +kernel
theorem dX1_minutesOf_34 : decode cX1_minutesOf 34 = .ok (.iinc 3 1, 3) := by decide +kernel
theorem dX1_minutesOf_37 : decode cX1_minutesOf 37 = .ok (.goto (-33), 3) := by decide +kernel
theorem dX1_minutesOf_40 : decode cX1_minutesOf 40 = .ok (.iload_n 2, 1) := by decide +kernel
theorem dX1_minutesOf_41 : decode cX1_minutesOf 41 = .ok (.ireturn, 1) := by decide +kernel
theorem dX2_init_0 : decode cX2_init 0 = .ok (.aload_n 0, 1) := by decide +kernel
theorem dX2_init_1 : decode cX2_init 1 = .ok (.invokespecial 3, 3) := by decide +kernel
theorem dX2_init_4 : decode cX2_init 4 = .ok (.aload_n 0, 1) := by decide +kernel
theorem dX2_init_5 : decode cX2_init 5 = .ok (.iconst 4, 1) := by decide +kernel
theorem dX2_init_6 : decode cX2_init 6 = .ok (.newarray .int, 2) := by decide +kernel
theorem dX2_init_8 : decode cX2_init 8 = .ok (.putfield 9, 3) := by decide +kernel
theorem dX2_init_11 : decode cX2_init 11 = .ok (.aload_n 0, 1) := by decide +kernel
theorem dX2_init_12 : decode cX2_init 12 = .ok (.iconst 4, 1) := by decide +kernel
theorem dX2_init_13 : decode cX2_init 13 = .ok (.newarray .int, 2) := by decide +kernel
theorem dX2_init_15 : decode cX2_init 15 = .ok (.putfield 15, 3) := by decide +kernel
theorem dX2_init_18 : decode cX2_init 18 = .ok (.aload_n 0, 1) := by decide +kernel
theorem dX2_init_19 : decode cX2_init 19 = .ok (.iconst 4, 1) := by decide +kernel
theorem dX2_init_20 : decode cX2_init 20 = .ok (.newarray .int, 2) := by decide +kernel
theorem dX2_init_22 : decode cX2_init 22 = .ok (.putfield 18, 3) := by decide +kernel
theorem dX2_init_25 : decode cX2_init 25 = .ok (.return_, 1) := by decide +kernel
set_option maxRecDepth 20000 in
theorem ggX2_name_X6_isWithin : GoodIn wsX2_name wsX6_isWithin := goodIn_r _ [5] (by decide +kernel) (by decide +kernel)
set_option maxRecDepth 20000 in
theorem gX2_name_X6_isWithin_n21 : GoodIn wsX2_name (wsX6_isWithin) := ggX2_name_X6_isWithin
theorem dX2_name_0 : decode cX2_name 0 = .ok (.iload_n 1, 1) := by decide +kernel
theorem dX2_name_1 : decode cX2_name 1 = .ok (.iconst 0, 1) := by decide +kernel
theorem dX2_name_2 : decode cX2_name 2 = .ok (.iconst 3, 1) := by decide +kernel
theorem dX2_name_3 : decode cX2_name 3 = .ok (.invokestatic 21, 3) := by decide +kernel
theorem dX2_name_6 : decode cX2_name 6 = .ok (.ifCond .eq 17, 3) := by decide +kernel
theorem dX2_name_9 : decode cX2_name 9 = .ok (.aload_n 0, 1) := by decide +kernel
theorem dX2_name_10 : decode cX2_name 10 = .ok (.getfield 9, 3) := by decide +kernel
theorem dX2_name_13 : decode cX2_name 13 = .ok (.iload_n 1, 1) := by decide +kernel
theorem dX2_name_14 : decode cX2_name 14 = .ok (.iload_n 2, 1) := by decide +kernel
theorem dX2_name_15 : decode cX2_name 15 = .ok (.iastore, 1) := by decide +kernel
theorem dX2_name_16 : decode cX2_name 16 = .ok (.aload_n 0, 1) := by decide +kernel
theorem dX2_name_17 : decode cX2_name 17 = .ok (.getfield 18, 3) := by decide +kernel
theorem dX2_name_20 : decode cX2_name 20 = .ok (.iload_n 1, 1) := by decide +kernel
theorem dX2_name_21 : decode cX2_name 21 = .ok (.iload_n 3, 1) := by decide +kernel
theorem dX2_name_22 : decode cX2_name 22 = .ok (.iastore, 1) := by decide +kernel
theorem dX2_name_23 : decode cX2_name 23 = .ok (.return_, 1) := by decide +kernel
set_option maxRecDepth 20000 in
theorem ggX2_firstStand_X6_isOwner : GoodIn wsX2_firstStand wsX6_isOwner := goodIn_r _ [5, 6, 7, 4, 8] (by decide +kernel) (by decide +kernel)
set_option maxRecDepth 20000 in
theorem gX2_firstStand_X6_isOwner_n25 : GoodIn wsX2_firstStand (wsX6_isOwner) := ggX2_firstStand_X6_isOwner
set_option maxRecDepth 20000 in
theorem ggX2_firstStand_X6_isWithin : GoodIn wsX2_firstStand wsX6_isWithin := goodIn_r _ [8] (by decide +kernel) (by decide +kernel)
set_option maxRecDepth 20000 in
theorem gX2_firstStand_X6_isWithin_n21 : GoodIn wsX2_firstStand (wsX6_isWithin) := ggX2_firstStand_X6_isWithin
theorem dX2_firstStand_0 : decode cX2_firstStand 0 = .ok (.iconst 0, 1) := by decide +kernel
theorem dX2_firstStand_1 : decode cX2_firstStand 1 = .ok (.istore_n 2, 1) := by decide +kernel
theorem dX2_firstStand_2 : decode cX2_firstStand 2 = .ok (.iload_n 2, 1) := by decide +kernel
theorem dX2_firstStand_3 : decode cX2_firstStand 3 = .ok (.iload_n 1, 1) := by decide +kernel
theorem dX2_firstStand_4 : decode cX2_firstStand 4 = .ok (.if_icmp .ge 43, 3) := by decide +kernel
theorem dX2_firstStand_7 : decode cX2_firstStand 7 = .ok (.iload_n 2, 1) := by decide +kernel
theorem dX2_firstStand_8 : decode cX2_firstStand 8 = .ok (.iconst 4, 1) := by decide +kernel
theorem dX2_firstStand_9 : decode cX2_firstStand 9 = .ok (.if_icmp .ge 38, 3) := by decide +kernel
theorem dX2_firstStand_12 : decode cX2_firstStand 12 = .ok (.aload_n 0, 1) := by decide +kernel
theorem dX2_firstStand_13 : decode cX2_firstStand 13 = .ok (.getfield 9, 3) := by decide +kernel
theorem dX2_firstStand_16 : decode cX2_firstStand 16 = .ok (.iload_n 2, 1) := by decide +kernel
theorem dX2_firstStand_17 : decode cX2_firstStand 17 = .ok (.iaload, 1) := by decide +kernel
theorem dX2_firstStand_18 : decode cX2_firstStand 18 = .ok (.invokestatic 25, 3) := by decide +kernel
theorem dX2_firstStand_21 : decode cX2_firstStand 21 = .ok (.ifCond .eq 18, 3) := by decide +kernel
theorem dX2_firstStand_24 : decode cX2_firstStand 24 = .ok (.aload_n 0, 1) := by decide +kernel
theorem dX2_firstStand_25 : decode cX2_firstStand 25 = .ok (.getfield 18, 3) := by decide +kernel
theorem dX2_firstStand_28 : decode cX2_firstStand 28 = .ok (.iload_n 2, 1) := by decide +kernel
theorem dX2_firstStand_29 : decode cX2_firstStand 29 = .ok (.iaload, 1) := by decide +kernel
theorem dX2_firstStand_30 : decode cX2_firstStand 30 = .ok (.iconst 1, 1) := by decide +kernel
theorem dX2_firstStand_31 : decode cX2_firstStand 31 = .ok (.bipush 100, 2) := by decide +kernel
theorem dX2_firstStand_33 : decode cX2_firstStand 33 = .ok (.invokestatic 21, 3) := by decide +kernel
theorem dX2_firstStand_36 : decode cX2_firstStand 36 = .ok (.ifCond .ne 5, 3) := by decide +kernel
theorem dX2_firstStand_39 : decode cX2_firstStand 39 = .ok (.iconst 0, 1) := by decide +kernel
theorem dX2_firstStand_40 : decode cX2_firstStand 40 = .ok (.ireturn, 1) := by decide +kernel
theorem dX2_firstStand_41 : decode cX2_firstStand 41 = .ok (.iinc 2 1, 3) := by decide +kernel
theorem dX2_firstStand_44 : decode cX2_firstStand 44 = .ok (.goto (-42), 3) := by decide +kernel
theorem dX2_firstStand_47 : decode cX2_firstStand 47 = .ok (.iconst 1, 1) := by decide +kernel
theorem dX2_firstStand_48 : decode cX2_firstStand 48 = .ok (.ireturn, 1) := by decide +kernel
set_option maxRecDepth 20000 in
theorem ggX2_partLength_X6_partOf : GoodIn wsX2_partLength wsX6_partOf := goodIn_r _ [5] (by decide +kernel) (by decide +kernel)
set_option maxRecDepth 20000 in
theorem gX2_partLength_X6_partOf_n29 : GoodIn wsX2_partLength (wsX6_partOf) := ggX2_partLength_X6_partOf
theorem dX2_partLength_0 : decode cX2_partLength 0 = .ok (.iconst 0, 1) := by decide +kernel
theorem dX2_partLength_1 : decode cX2_partLength 1 = .ok (.istore_n 3, 1) := by decide +kernel
theorem dX2_partLength_2 : decode cX2_partLength 2 = .ok (.iconst 0, 1) := by decide +kernel
theorem dX2_partLength_3 : decode cX2_partLength 3 = .ok (.istore 4, 2) := by decide +kernel
theorem dX2_partLength_5 : decode cX2_partLength 5 = .ok (.iload 4, 2) := by decide +kernel
theorem dX2_partLength_7 : decode cX2_partLength 7 = .ok (.iload_n 2, 1) := by decide +kernel
theorem dX2_partLength_8 : decode cX2_partLength 8 = .ok (.if_icmp .ge 25, 3) := by decide +kernel
theorem dX2_partLength_11 : decode cX2_partLength 11 = .ok (.iload 4, 2) := by decide +kernel
theorem dX2_partLength_13 : decode cX2_partLength 13 = .ok (.iconst 4, 1) := by decide +kernel
theorem dX2_partLength_14 : decode cX2_partLength 14 = .ok (.if_icmp .ge 19, 3) := by decide +kernel
theorem dX2_partLength_17 : decode cX2_partLength 17 = .ok (.iload_n 3, 1) := by decide +kernel
theorem dX2_partLength_18 : decode cX2_partLength 18 = .ok (.aload_n 0, 1) := by decide +kernel
theorem dX2_partLength_19 : decode cX2_partLength 19 = .ok (.getfield 18, 3) := by decide +kernel
theorem dX2_partLength_22 : decode cX2_partLength 22 = .ok (.iload 4, 2) := by decide +kernel
theorem dX2_partLength_24 : decode cX2_partLength 24 = .ok (.iaload, 1) := by decide +kernel
theorem dX2_partLength_25 : decode cX2_partLength 25 = .ok (.iadd, 1) := by decide +kernel
theorem dX2_partLength_26 : decode cX2_partLength 26 = .ok (.istore_n 3, 1) := by decide +kernel
theorem dX2_partLength_27 : decode cX2_partLength 27 = .ok (.iinc 4 1, 3) := by decide +kernel
theorem dX2_partLength_30 : decode cX2_partLength 30 = .ok (.goto (-25), 3) := by decide +kernel
theorem dX2_partLength_33 : decode cX2_partLength 33 = .ok (.iload_n 1, 1) := by decide +kernel
theorem dX2_partLength_34 : decode cX2_partLength 34 = .ok (.istore 4, 2) := by decide +kernel
theorem dX2_partLength_36 : decode cX2_partLength 36 = .ok (.iconst 0, 1) := by decide +kernel
theorem dX2_partLength_37 : decode cX2_partLength 37 = .ok (.istore 5, 2) := by decide +kernel
theorem dX2_partLength_39 : decode cX2_partLength 39 = .ok (.iload 5, 2) := by decide +kernel
theorem dX2_partLength_41 : decode cX2_partLength 41 = .ok (.iload_n 2, 1) := by decide +kernel
theorem dX2_partLength_42 : decode cX2_partLength 42 = .ok (.if_icmp .ge 46, 3) := by decide +kernel
theorem dX2_partLength_45 : decode cX2_partLength 45 = .ok (.iload 5, 2) := by decide +kernel
theorem dX2_partLength_47 : decode cX2_partLength 47 = .ok (.iconst 4, 1) := by decide +kernel
theorem dX2_partLength_48 : decode cX2_partLength 48 = .ok (.if_icmp .ge 40, 3) := by decide +kernel
theorem dX2_partLength_51 : decode cX2_partLength 51 = .ok (.aload_n 0, 1) := by decide +kernel
theorem dX2_partLength_52 : decode cX2_partLength 52 = .ok (.getfield 15, 3) := by decide +kernel
theorem dX2_partLength_55 : decode cX2_partLength 55 = .ok (.iload 5, 2) := by decide +kernel
theorem dX2_partLength_57 : decode cX2_partLength 57 = .ok (.iload_n 1, 1) := by decide +kernel
theorem dX2_partLength_58 : decode cX2_partLength 58 = .ok (.aload_n 0, 1) := by decide +kernel
theorem dX2_partLength_59 : decode cX2_partLength 59 = .ok (.getfield 18, 3) := by decide +kernel
theorem dX2_partLength_62 : decode cX2_partLength 62 = .ok (.iload 5, 2) := by decide +kernel
theorem dX2_partLength_64 : decode cX2_partLength 64 = .ok (.iaload, 1) := by decide +kernel
theorem dX2_partLength_65 : decode cX2_partLength 65 = .ok (.iload_n 3, 1) := by decide +kernel
theorem dX2_partLength_66 : decode cX2_partLength 66 = .ok (.invokestatic 29, 3) := by decide +kernel
theorem dX2_partLength_69 : decode cX2_partLength 69 = .ok (.iastore, 1) := by decide +kernel
theorem dX2_partLength_70 : decode cX2_partLength 70 = .ok (.iload 4, 2) := by decide +kernel
theorem dX2_partLength_72 : decode cX2_partLength 72 = .ok (.aload_n 0, 1) := by decide +kernel
theorem dX2_partLength_73 : decode cX2_partLength 73 = .ok (.getfield 15, 3) := by decide +kernel
theorem dX2_partLength_76 : decode cX2_partLength 76 = .ok (.iload 5, 2) := by decide +kernel
theorem dX2_partLength_78 : decode cX2_partLength 78 = .ok (.iaload, 1) := by decide +kernel
theorem dX2_partLength_79 : decode cX2_partLength 79 = .ok (.isub, 1) := by decide +kernel
theorem dX2_partLength_80 : decode cX2_partLength 80 = .ok (.istore 4, 2) := by decide +kernel
theorem dX2_partLength_82 : decode cX2_partLength 82 = .ok (.iinc 5 1, 3) := by decide +kernel
theorem dX2_partLength_85 : decode cX2_partLength 85 = .ok (.goto (-46), 3) := by decide +kernel
theorem dX2_partLength_88 : decode cX2_partLength 88 = .ok (.iconst 0, 1) := by decide +kernel
theorem dX2_partLength_89 : decode cX2_partLength 89 = .ok (.istore 5, 2) := by decide +kernel
theorem dX2_partLength_91 : decode cX2_partLength 91 = .ok (.iconst 0, 1) := by decide +kernel
theorem dX2_partLength_92 : decode cX2_partLength 92 = .ok (.istore 6, 2) := by decide +kernel
theorem dX2_partLength_94 : decode cX2_partLength 94 = .ok (.iload 6, 2) := by decide +kernel
theorem dX2_partLength_96 : decode cX2_partLength 96 = .ok (.iload_n 2, 1) := by decide +kernel
theorem dX2_partLength_97 : decode cX2_partLength 97 = .ok (.if_icmp .ge 57, 3) := by decide +kernel
theorem dX2_partLength_100 : decode cX2_partLength 100 = .ok (.iload 6, 2) := by decide +kernel
theorem dX2_partLength_102 : decode cX2_partLength 102 = .ok (.iconst 4, 1) := by decide +kernel
theorem dX2_partLength_103 : decode cX2_partLength 103 = .ok (.if_icmp .ge 51, 3) := by decide +kernel
theorem dX2_partLength_106 : decode cX2_partLength 106 = .ok (.aload_n 0, 1) := by decide +kernel
theorem dX2_partLength_107 : decode cX2_partLength 107 = .ok (.getfield 15, 3) := by decide +kernel
theorem dX2_partLength_110 : decode cX2_partLength 110 = .ok (.iload 6, 2) := by decide +kernel
theorem dX2_partLength_112 : decode cX2_partLength 112 = .ok (.dup2, 1) := by decide +kernel
theorem dX2_partLength_113 : decode cX2_partLength 113 = .ok (.iaload, 1) := by decide +kernel
theorem dX2_partLength_114 : decode cX2_partLength 114 = .ok (.iload 6, 2) := by decide +kernel
theorem dX2_partLength_116 : decode cX2_partLength 116 = .ok (.iload 4, 2) := by decide +kernel
theorem dX2_partLength_118 : decode cX2_partLength 118 = .ok (.if_icmp .ge 7, 3) := by decide +kernel
theorem dX2_partLength_121 : decode cX2_partLength 121 = .ok (.iconst 1, 1) := by decide +kernel
theorem dX2_partLength_122 : decode cX2_partLength 122 = .ok (.goto 4, 3) := by decide +kernel
theorem dX2_partLength_125 : decode cX2_partLength 125 = .ok (.iconst 0, 1) := by decide +kernel
theorem dX2_partLength_126 : decode cX2_partLength 126 = .ok (.iadd, 1) := by decide +kernel
theorem dX2_partLength_127 : decode cX2_partLength 127 = .ok (.iastore, 1) := by decide +kernel
theorem dX2_partLength_128 : decode cX2_partLength 128 = .ok (.iload 5, 2) := by decide +kernel
theorem dX2_partLength_130 : decode cX2_partLength 130 = .ok (.aload_n 0, 1) := by decide +kernel
theorem dX2_partLength_131 : decode cX2_partLength 131 = .ok (.getfield 15, 3) := by decide +kernel
theorem dX2_partLength_134 : decode cX2_partLength 134 = .ok (.iload 6, 2) := by decide +kernel
theorem dX2_partLength_136 : decode cX2_partLength 136 = .ok (.iaload, 1) := by decide +kernel
theorem dX2_partLength_137 : decode cX2_partLength 137 = .ok (.ifCond .le 7, 3) := by decide +kernel
theorem dX2_partLength_140 : decode cX2_partLength 140 = .ok (.iconst 1, 1) := by decide +kernel
theorem dX2_partLength_141 : decode cX2_partLength 141 = .ok (.goto 4, 3) := by decide +kernel
theorem dX2_partLength_144 : decode cX2_partLength 144 = .ok (.iconst 0, 1) := by decide +kernel
theorem dX2_partLength_145 : decode cX2_partLength 145 = .ok (.iadd, 1) := by decide +kernel
theorem dX2_partLength_146 : decode cX2_partLength 146 = .ok (.istore 5, 2) := by decide +kernel
theorem dX2_partLength_148 : decode cX2_partLength 148 = .ok (.iinc 6 1, 3) := by decide +kernel
theorem dX2_partLength_151 : decode cX2_partLength 151 = .ok (.goto (-57), 3) := by decide +kernel
theorem dX2_partLength_154 : decode cX2_partLength 154 = .ok (.iload 5, 2) := by decide +kernel
theorem dX2_partLength_156 : decode cX2_partLength 156 = .ok (.ireturn, 1) := by decide +kernel
set_option maxRecDepth 20000 in
theorem ggX3_init_X5_init : GoodIn wsX3_init wsX5_init := goodIn_r _ [11, 12, 2, 3, 8, 13, 14, 15] (by decide +kernel) (by decide +kernel)
set_option maxRecDepth 20000 in
theorem gX3_init_X5_init_n11 : GoodIn wsX3_init (wsX5_init) := ggX3_init_X5_init
theorem dX3_init_0 : decode cX3_init 0 = .ok (.aload_n 0, 1) := by decide +kernel
theorem dX3_init_1 : decode cX3_init 1 = .ok (.invokespecial 3, 3) := by decide +kernel
theorem dX3_init_4 : decode cX3_init 4 = .ok (.aload_n 0, 1) := by decide +kernel
theorem dX3_init_5 : decode cX3_init 5 = .ok (.new 9, 3) := by decide +kernel
theorem dX3_init_8 : decode cX3_init 8 = .ok (.dup, 1) := by decide +kernel
theorem dX3_init_9 : decode cX3_init 9 = .ok (.invokespecial 11, 3) := by decide +kernel
theorem dX3_init_12 : decode cX3_init 12 = .ok (.putfield 12, 3) := by decide +kernel
theorem dX3_init_15 : decode cX3_init 15 = .ok (.aload_n 0, 1) := by decide +kernel
theorem dX3_init_16 : decode cX3_init 16 = .ok (.iconst 4, 1) := by decide +kernel
theorem dX3_init_17 : decode cX3_init 17 = .ok (.newarray .int, 2) := by decide +kernel
theorem dX3_init_19 : decode cX3_init 19 = .ok (.putfield 18, 3) := by decide +kernel
theorem dX3_init_22 : decode cX3_init 22 = .ok (.return_, 1) := by decide +kernel
set_option maxRecDepth 20000 in
theorem ggX3_readTerms_X3_isTerm : GoodIn wsX3_readTerms wsX3_isTerm := goodIn_r _ [15, 16, 17, 18, 14, 19, 6, 7, 8, 9, 10, 20, 21, 22, 23, 24, 25, 26, 27, 28, 29, 30, 31, 32, 33, 34, 35, 36, 37, 38, 39, 40, 41, 42, 43, 44, 45, 46, 47, 48, 49, 50, 51, 52, 53, 54, 55, 56, 57, 58, 59, 60, 61, 62, 63, 64, 65, 66, 67, 68, 69, 70, 71, 72, 73, 74, 75, 76, 77, 78, 79, 80, 81, 82, 83, 84, 85, 1, 86, 87, 88, 89, 90, 91, 92, 93, 94, 95] (by decide +kernel) (by decide +kernel)
set_option maxRecDepth 20000 in
theorem gX3_readTerms_X3_isTerm : GoodIn wsX3_readTerms (wsV RX3 32 RX3 yX3_isTerm wsX3_isTerm) := goodIn_app (goodIn_of _ (by decide +kernel)) ggX3_readTerms_X3_isTerm
set_option maxRecDepth 20000 in
theorem ggX3_readTerms_X3_takeThing : GoodIn wsX3_readTerms wsX3_takeThing := goodIn_r _ [19, 6, 7, 8, 9, 10, 20, 21, 14, 22, 23, 24, 25, 26, 27, 28, 90, 91, 92, 93, 94, 95] (by decide +kernel) (by decide +kernel)
set_option maxRecDepth 20000 in
theorem gX3_readTerms_X3_takeThing : GoodIn wsX3_readTerms (wsV RX3 36 RX3 yX3_takeThing wsX3_takeThing) := goodIn_app (goodIn_of _ (by decide +kernel)) ggX3_readTerms_X3_takeThing
theorem dX3_readTerms_0 : decode cX3_readTerms 0 = .ok (.aload_n 1, 1) := by decide +kernel
theorem dX3_readTerms_1 : decode cX3_readTerms 1 = .ok (.iconst 0, 1) := by decide +kernel
theorem dX3_readTerms_2 : decode cX3_readTerms 2 = .ok (.aload_n 0, 1) := by decide +kernel
theorem dX3_readTerms_3 : decode cX3_readTerms 3 = .ok (.getfield 18, 3) := by decide +kernel
theorem dX3_readTerms_6 : decode cX3_readTerms 6 = .ok (.iconst 0, 1) := by decide +kernel
theorem dX3_readTerms_7 : decode cX3_readTerms 7 = .ok (.iconst 4, 1) := by decide +kernel
theorem dX3_readTerms_8 : decode cX3_readTerms 8 = .ok (.invokestatic 22, 3) := by decide +kernel
theorem dX3_readTerms_11 : decode cX3_readTerms 11 = .ok (.aload_n 0, 1) := by decide +kernel
theorem dX3_readTerms_12 : decode cX3_readTerms 12 = .ok (.iconst 0, 1) := by decide +kernel
theorem dX3_readTerms_13 : decode cX3_readTerms 13 = .ok (.putfield 28, 3) := by decide +kernel
theorem dX3_readTerms_16 : decode cX3_readTerms 16 = .ok (.iconst 1, 1) := by decide +kernel
theorem dX3_readTerms_17 : decode cX3_readTerms 17 = .ok (.istore_n 2, 1) := by decide +kernel
theorem dX3_readTerms_18 : decode cX3_readTerms 18 = .ok (.iload_n 2, 1) := by decide +kernel
theorem dX3_readTerms_19 : decode cX3_readTerms 19 = .ok (.sipush 400, 3) := by decide +kernel
theorem dX3_readTerms_22 : decode cX3_readTerms 22 = .ok (.if_icmp .gt 57, 3) := by decide +kernel
theorem dX3_readTerms_25 : decode cX3_readTerms 25 = .ok (.aload_n 0, 1) := by decide +kernel
theorem dX3_readTerms_26 : decode cX3_readTerms 26 = .ok (.invokevirtual 32, 3) := by decide +kernel
theorem dX3_readTerms_29 : decode cX3_readTerms 29 = .ok (.ifCond .ne 5, 3) := by decide +kernel
theorem dX3_readTerms_32 : decode cX3_readTerms 32 = .ok (.iconst (-1), 1) := by decide +kernel
theorem dX3_readTerms_33 : decode cX3_readTerms 33 = .ok (.ireturn, 1) := by decide +kernel
theorem dX3_readTerms_34 : decode cX3_readTerms 34 = .ok (.aload_n 0, 1) := by decide +kernel
theorem dX3_readTerms_35 : decode cX3_readTerms 35 = .ok (.invokevirtual 36, 3) := by decide +kernel
theorem dX3_readTerms_38 : decode cX3_readTerms 38 = .ok (.aload_n 0, 1) := by decide +kernel
theorem dX3_readTerms_39 : decode cX3_readTerms 39 = .ok (.getfield 39, 3) := by decide +kernel
theorem dX3_readTerms_42 : decode cX3_readTerms 42 = .ok (.aload_n 0, 1) := by decide +kernel
theorem dX3_readTerms_43 : decode cX3_readTerms 43 = .ok (.getfield 12, 3) := by decide +kernel
theorem dX3_readTerms_46 : decode cX3_readTerms 46 = .ok (.getfield 42, 3) := by decide +kernel
theorem dX3_readTerms_49 : decode cX3_readTerms 49 = .ok (.if_icmp .lt 5, 3) := by decide +kernel
theorem dX3_readTerms_52 : decode cX3_readTerms 52 = .ok (.iload_n 2, 1) := by decide +kernel
theorem dX3_readTerms_53 : decode cX3_readTerms 53 = .ok (.ireturn, 1) := by decide +kernel
theorem dX3_readTerms_54 : decode cX3_readTerms 54 = .ok (.aload_n 0, 1) := by decide +kernel
theorem dX3_readTerms_55 : decode cX3_readTerms 55 = .ok (.getfield 12, 3) := by decide +kernel
theorem dX3_readTerms_58 : decode cX3_readTerms 58 = .ok (.getfield 45, 3) := by decide +kernel
theorem dX3_readTerms_61 : decode cX3_readTerms 61 = .ok (.aload_n 0, 1) := by decide +kernel
theorem dX3_readTerms_62 : decode cX3_readTerms 62 = .ok (.getfield 39, 3) := by decide +kernel
theorem dX3_readTerms_65 : decode cX3_readTerms 65 = .ok (.iaload, 1) := by decide +kernel
theorem dX3_readTerms_66 : decode cX3_readTerms 66 = .ok (.bipush 59, 2) := by decide +kernel
theorem dX3_readTerms_68 : decode cX3_readTerms 68 = .ok (.if_icmp .eq 5, 3) := by decide +kernel
theorem dX3_readTerms_71 : decode cX3_readTerms 71 = .ok (.iconst (-1), 1) := by decide +kernel
theorem dX3_readTerms_72 : decode cX3_readTerms 72 = .ok (.ireturn, 1) := by decide +kernel
theorem dX3_readTerms_73 : decode cX3_readTerms 73 = .ok (.iinc 2 1, 3) := by decide +kernel
theorem dX3_readTerms_76 : decode cX3_readTerms 76 = .ok (.goto (-58), 3) := by decide +kernel
theorem dX3_readTerms_79 : decode cX3_readTerms 79 = .ok (.iconst (-1), 1) := by decide +kernel
theorem dX3_readTerms_80 : decode cX3_readTerms 80 = .ok (.ireturn, 1) := by decide +kernel
set_option maxRecDepth 20000 in
theorem ggX3_isTerm_X3_takeThing : GoodIn wsX3_isTerm wsX3_takeThing := goodIn_r _ [5, 6, 7, 8, 9, 10, 11, 12, 4, 13, 14, 15, 16, 17, 18, 19, 82, 83, 84, 85, 86, 87] (by decide +kernel) (by decide +kernel)
set_option maxRecDepth 20000 in
theorem gX3_isTerm_X3_takeThing : GoodIn wsX3_isTerm (wsV RX3 36 RX3 yX3_takeThing wsX3_takeThing) := goodIn_app (goodIn_of _ (by decide +kernel)) ggX3_isTerm_X3_takeThing
set_option maxRecDepth 20000 in
theorem ggX3_isTerm_X3_isWord : GoodIn wsX3_isTerm wsX3_isWord := goodIn_r _ [23, 6, 7, 8, 10, 24, 25, 26, 27, 28, 29, 30, 31, 32, 33, 34, 35, 36, 37, 38, 39, 40, 41, 42, 43, 44, 45, 46, 47, 48, 49, 50, 51, 52, 53, 54, 55, 56, 57, 58, 59, 60, 61, 62, 63, 64, 65, 66, 67, 68, 69, 70, 71, 72, 82, 83, 84, 85, 86, 87] (by decide +kernel) (by decide +kernel)
set_option maxRecDepth 20000 in
theorem gX3_isTerm_X3_isWord : GoodIn wsX3_isTerm (wsV RX3 50 RX3 yX3_isWord wsX3_isWord) := goodIn_app (goodIn_of _ (by decide +kernel)) ggX3_isTerm_X3_isWord
set_option maxRecDepth 20000 in
theorem ggX3_isTerm_X3_isNumber : GoodIn wsX3_isTerm wsX3_isNumber := goodIn_r _ [76, 7, 8, 9, 10, 6, 77, 1, 2, 3, 4, 5, 11, 12, 13, 14, 15, 16, 17, 18, 19, 82, 83, 84, 85, 86, 87] (by decide +kernel) (by decide +kernel)
set_option maxRecDepth 20000 in
theorem gX3_isTerm_X3_isNumber : GoodIn wsX3_isTerm (wsV RX3 54 RX3 yX3_isNumber wsX3_isNumber) := goodIn_app (goodIn_of _ (by decide +kernel)) ggX3_isTerm_X3_isNumber
set_option maxRecDepth 20000 in
theorem ggX3_isTerm_X3_isPayment : GoodIn wsX3_isTerm wsX3_isPayment := goodIn_r _ [81, 77, 1, 2, 3, 4, 5, 6, 7, 8, 9, 10, 11, 12, 13, 14, 15, 16, 17, 18, 19, 20, 21, 22, 23, 24, 25, 26, 27, 28, 29, 30, 31, 32, 33, 34, 35, 36, 37, 38, 39, 40, 41, 42, 43, 44, 45, 46, 47, 48, 49, 50, 51, 52, 53, 54, 55, 56, 57, 58, 59, 60, 61, 62, 63, 64, 65, 66, 67, 68, 69, 70, 71, 72, 82, 83, 84, 85, 86, 87] (by decide +kernel) (by decide +kernel)
set_option maxRecDepth 20000 in
theorem gX3_isTerm_X3_isPayment : GoodIn wsX3_isTerm (wsV RX3 64 RX3 yX3_isPayment wsX3_isPayment) := goodIn_app (goodIn_of _ (by decide +kernel)) ggX3_isTerm_X3_isPayment
theorem dX3_isTerm_0 : decode cX3_isTerm 0 = .ok (.aload_n 0, 1) := by decide +kernel
theorem dX3_isTerm_1 : decode cX3_isTerm 1 = .ok (.invokevirtual 36, 3) := by decide +kernel
theorem dX3_isTerm_4 : decode cX3_isTerm 4 = .ok (.aload_n 0, 1) := by decide +kernel
theorem dX3_isTerm_5 : decode cX3_isTerm 5 = .ok (.ldc 48, 2) := by decide +kernel
theorem dX3_isTerm_7 : decode cX3_isTerm 7 = .ok (.invokevirtual 50, 3) := by decide +kernel
theorem dX3_isTerm_10 : decode cX3_isTerm 10 = .ok (.ifCond .eq 11, 3) := by decide +kernel
theorem dX3_isTerm_13 : decode cX3_isTerm 13 = .ok (.aload_n 0, 1) := by decide +kernel
theorem dX3_isTerm_14 : decode cX3_isTerm 14 = .ok (.iconst 0, 1) := by decide +kernel
theorem dX3_isTerm_15 : decode cX3_isTerm 15 = .ok (.bipush 100, 2) := by decide +kernel
theorem dX3_isTerm_17 : decode cX3_isTerm 17 = .ok (.invokevirtual 54, 3) := by decide +kernel
theorem dX3_isTerm_20 : decode cX3_isTerm 20 = .ok (.ireturn, 1) := by decide +kernel
theorem dX3_isTerm_21 : decode cX3_isTerm 21 = .ok (.aload_n 0, 1) := by decide +kernel
theorem dX3_isTerm_22 : decode cX3_isTerm 22 = .ok (.ldc 58, 2) := by decide +kernel
theorem dX3_isTerm_24 : decode cX3_isTerm 24 = .ok (.invokevirtual 50, 3) := by decide +kernel
theorem dX3_isTerm_27 : decode cX3_isTerm 27 = .ok (.ifCond .eq 12, 3) := by decide +kernel
theorem dX3_isTerm_30 : decode cX3_isTerm 30 = .ok (.aload_n 0, 1) := by decide +kernel
theorem dX3_isTerm_31 : decode cX3_isTerm 31 = .ok (.iconst 1, 1) := by decide +kernel
theorem dX3_isTerm_32 : decode cX3_isTerm 32 = .ok (.sipush 1000, 3) := by decide +kernel
theorem dX3_isTerm_35 : decode cX3_isTerm 35 = .ok (.invokevirtual 54, 3) := by decide +kernel
theorem dX3_isTerm_38 : decode cX3_isTerm 38 = .ok (.ireturn, 1) := by decide +kernel
theorem dX3_isTerm_39 : decode cX3_isTerm 39 = .ok (.aload_n 0, 1) := by decide +kernel
theorem dX3_isTerm_40 : decode cX3_isTerm 40 = .ok (.ldc 60, 2) := by decide +kernel
theorem dX3_isTerm_42 : decode cX3_isTerm 42 = .ok (.invokevirtual 50, 3) := by decide +kernel
theorem dX3_isTerm_45 : decode cX3_isTerm 45 = .ok (.ifCond .eq 11, 3) := by decide +kernel
theorem dX3_isTerm_48 : decode cX3_isTerm 48 = .ok (.aload_n 0, 1) := by decide +kernel
theorem dX3_isTerm_49 : decode cX3_isTerm 49 = .ok (.iconst 3, 1) := by decide +kernel
theorem dX3_isTerm_50 : decode cX3_isTerm 50 = .ok (.bipush 100, 2) := by decide +kernel
theorem dX3_isTerm_52 : decode cX3_isTerm 52 = .ok (.invokevirtual 54, 3) := by decide +kernel
theorem dX3_isTerm_55 : decode cX3_isTerm 55 = .ok (.ireturn, 1) := by decide +kernel
theorem dX3_isTerm_56 : decode cX3_isTerm 56 = .ok (.aload_n 0, 1) := by decide +kernel
theorem dX3_isTerm_57 : decode cX3_isTerm 57 = .ok (.ldc 62, 2) := by decide +kernel
theorem dX3_isTerm_59 : decode cX3_isTerm 59 = .ok (.invokevirtual 50, 3) := by decide +kernel
theorem dX3_isTerm_62 : decode cX3_isTerm 62 = .ok (.ifCond .eq 14, 3) := by decide +kernel
theorem dX3_isTerm_65 : decode cX3_isTerm 65 = .ok (.aload_n 0, 1) := by decide +kernel
theorem dX3_isTerm_66 : decode cX3_isTerm 66 = .ok (.invokevirtual 64, 3) := by decide +kernel
theorem dX3_isTerm_69 : decode cX3_isTerm 69 = .ok (.ifCond .eq 7, 3) := by decide +kernel
theorem dX3_isTerm_72 : decode cX3_isTerm 72 = .ok (.iconst 1, 1) := by decide +kernel
theorem dX3_isTerm_73 : decode cX3_isTerm 73 = .ok (.goto 4, 3) := by decide +kernel
theorem dX3_isTerm_76 : decode cX3_isTerm 76 = .ok (.iconst 0, 1) := by decide +kernel
theorem dX3_isTerm_77 : decode cX3_isTerm 77 = .ok (.ireturn, 1) := by decide +kernel
set_option maxRecDepth 20000 in
theorem ggX3_isPayment_X3_takeThing : GoodIn wsX3_isPayment wsX3_takeThing := goodIn_r _ [6, 7, 8, 9, 10, 11, 12, 13, 5, 14, 15, 16, 17, 18, 19, 20, 74, 75, 76, 77, 78, 79] (by decide +kernel) (by decide +kernel)
set_option maxRecDepth 20000 in
theorem gX3_isPayment_X3_takeThing : GoodIn wsX3_isPayment (wsV RX3 36 RX3 yX3_takeThing wsX3_takeThing) := goodIn_app (goodIn_of _ (by decide +kernel)) ggX3_isPayment_X3_takeThing
set_option maxRecDepth 20000 in
theorem ggX3_isPayment_X3_isWord : GoodIn wsX3_isPayment wsX3_isWord := goodIn_r _ [24, 7, 8, 9, 11, 25, 26, 27, 28, 29, 30, 31, 32, 33, 34, 35, 36, 37, 38, 39, 40, 41, 42, 43, 44, 45, 46, 47, 48, 49, 50, 51, 52, 53, 54, 55, 56, 57, 58, 59, 60, 61, 62, 63, 64, 65, 66, 67, 68, 69, 70, 71, 72, 73, 74, 75, 76, 77, 78, 79] (by decide +kernel) (by decide +kernel)
set_option maxRecDepth 20000 in
theorem gX3_isPayment_X3_isWord : GoodIn wsX3_isPayment (wsV RX3 50 RX3 yX3_isWord wsX3_isWord) := goodIn_app (goodIn_of _ (by decide +kernel)) ggX3_isPayment_X3_isWord
theorem dX3_isPayment_0 : decode cX3_isPayment 0 = .ok (.aload_n 0, 1) := by decide +kernel
theorem dX3_isPayment_1 : decode cX3_isPayment 1 = .ok (.invokevirtual 36, 3) := by decide +kernel
theorem dX3_isPayment_4 : decode cX3_isPayment 4 = .ok (.aload_n 0, 1) := by decide +kernel
theorem dX3_isPayment_5 : decode cX3_isPayment 5 = .ok (.ldc 67, 2) := by decide +kernel
theorem dX3_isPayment_7 : decode cX3_isPayment 7 = .ok (.invokevirtual 50, 3) := by decide +kernel
theorem dX3_isPayment_10 : decode cX3_isPayment 10 = .ok (.istore_n 1, 1) := by decide +kernel
theorem dX3_isPayment_11 : decode cX3_isPayment 11 = .ok (.iload_n 1, 1) := by decide +kernel
theorem dX3_isPayment_12 : decode cX3_isPayment 12 = .ok (.ifCond .ne 14, 3) := by decide +kernel
theorem dX3_isPayment_15 : decode cX3_isPayment 15 = .ok (.aload_n 0, 1) := by decide +kernel
theorem dX3_isPayment_16 : decode cX3_isPayment 16 = .ok (.ldc 69, 2) := by decide +kernel
theorem dX3_isPayment_18 : decode cX3_isPayment 18 = .ok (.invokevirtual 50, 3) := by decide +kernel
theorem dX3_isPayment_21 : decode cX3_isPayment 21 = .ok (.ifCond .ne 5, 3) := by decide +kernel
theorem dX3_isPayment_24 : decode cX3_isPayment 24 = .ok (.iconst 0, 1) := by decide +kernel
theorem dX3_isPayment_25 : decode cX3_isPayment 25 = .ok (.ireturn, 1) := by decide +kernel
theorem dX3_isPayment_26 : decode cX3_isPayment 26 = .ok (.aload_n 0, 1) := by decide +kernel
theorem dX3_isPayment_27 : decode cX3_isPayment 27 = .ok (.getfield 18, 3) := by decide +kernel
theorem dX3_isPayment_30 : decode cX3_isPayment 30 = .ok (.iconst 2, 1) := by decide +kernel
theorem dX3_isPayment_31 : decode cX3_isPayment 31 = .ok (.iload_n 1, 1) := by decide +kernel
theorem dX3_isPayment_32 : decode cX3_isPayment 32 = .ok (.ifCond .eq 7, 3) := by decide +kernel
theorem dX3_isPayment_35 : decode cX3_isPayment 35 = .ok (.iconst 1, 1) := by decide +kernel
theorem dX3_isPayment_36 : decode cX3_isPayment 36 = .ok (.goto 4, 3) := by decide +kernel
theorem dX3_isPayment_39 : decode cX3_isPayment 39 = .ok (.iconst 0, 1) := by decide +kernel
theorem dX3_isPayment_40 : decode cX3_isPayment 40 = .ok (.iastore, 1) := by decide +kernel
theorem dX3_isPayment_41 : decode cX3_isPayment 41 = .ok (.iconst 1, 1) := by decide +kernel
theorem dX3_isPayment_42 : decode cX3_isPayment 42 = .ok (.ireturn, 1) := by decide +kernel
set_option maxRecDepth 20000 in
theorem ggX3_isNumber_X3_takeThing : GoodIn wsX3_isNumber wsX3_takeThing := goodIn_r _ [11, 5, 1, 2, 3, 4, 12, 13, 10, 14, 15, 16, 17, 18, 19, 20, 21, 22, 23, 24, 25, 26] (by decide +kernel) (by decide +kernel)
set_option maxRecDepth 20000 in
theorem gX3_isNumber_X3_takeThing : GoodIn wsX3_isNumber (wsV RX3 36 RX3 yX3_takeThing wsX3_takeThing) := goodIn_app (goodIn_of _ (by decide +kernel)) ggX3_isNumber_X3_takeThing
set_option maxRecDepth 20000 in
theorem ggX3_isNumber_X3_isDigit : GoodIn wsX3_isNumber wsX3_isDigit := goodIn_r _ [20, 15, 16, 17] (by decide +kernel) (by decide +kernel)
set_option maxRecDepth 20000 in
theorem gX3_isNumber_X3_isDigit : GoodIn wsX3_isNumber (va_wsS RX3 71 yX3_isDigit wsX3_isDigit) := goodIn_app (goodIn_of _ (by decide +kernel)) ggX3_isNumber_X3_isDigit
theorem dX3_isNumber_0 : decode cX3_isNumber 0 = .ok (.aload_n 0, 1) := by decide +kernel
theorem dX3_isNumber_1 : decode cX3_isNumber 1 = .ok (.invokevirtual 36, 3) := by decide +kernel
theorem dX3_isNumber_4 : decode cX3_isNumber 4 = .ok (.aload_n 0, 1) := by decide +kernel
theorem dX3_isNumber_5 : decode cX3_isNumber 5 = .ok (.getfield 39, 3) := by decide +kernel
theorem dX3_isNumber_8 : decode cX3_isNumber 8 = .ok (.aload_n 0, 1) := by decide +kernel
theorem dX3_isNumber_9 : decode cX3_isNumber 9 = .ok (.getfield 12, 3) := by decide +kernel
theorem dX3_isNumber_12 : decode cX3_isNumber 12 = .ok (.getfield 42, 3) := by decide +kernel
theorem dX3_isNumber_15 : decode cX3_isNumber 15 = .ok (.if_icmp .ge 34, 3) := by decide +kernel
theorem dX3_isNumber_18 : decode cX3_isNumber 18 = .ok (.aload_n 0, 1) := by decide +kernel
theorem dX3_isNumber_19 : decode cX3_isNumber 19 = .ok (.getfield 12, 3) := by decide +kernel
theorem dX3_isNumber_22 : decode cX3_isNumber 22 = .ok (.getfield 45, 3) := by decide +kernel
theorem dX3_isNumber_25 : decode cX3_isNumber 25 = .ok (.aload_n 0, 1) := by decide +kernel
theorem dX3_isNumber_26 : decode cX3_isNumber 26 = .ok (.getfield 39, 3) := by decide +kernel
theorem dX3_isNumber_29 : decode cX3_isNumber 29 = .ok (.iaload, 1) := by decide +kernel
theorem dX3_isNumber_30 : decode cX3_isNumber 30 = .ok (.invokestatic 71, 3) := by decide +kernel
theorem dX3_isNumber_33 : decode cX3_isNumber 33 = .ok (.ifCond .eq 16, 3) := by decide +kernel
theorem dX3_isNumber_36 : decode cX3_isNumber 36 = .ok (.aload_n 0, 1) := by decide +kernel
theorem dX3_isNumber_37 : decode cX3_isNumber 37 = .ok (.getfield 28, 3) := by decide +kernel
theorem dX3_isNumber_40 : decode cX3_isNumber 40 = .ok (.aload_n 0, 1) := by decide +kernel
theorem dX3_isNumber_41 : decode cX3_isNumber 41 = .ok (.getfield 39, 3) := by decide +kernel
theorem dX3_isNumber_44 : decode cX3_isNumber 44 = .ok (.isub, 1) := by decide +kernel
theorem dX3_isNumber_45 : decode cX3_isNumber 45 = .ok (.iconst 4, 1) := by decide +kernel
theorem dX3_isNumber_46 : decode cX3_isNumber 46 = .ok (.if_icmp .le 5, 3) := by decide +kernel
theorem dX3_isNumber_49 : decode cX3_isNumber 49 = .ok (.iconst 0, 1) := by decide +kernel
theorem dX3_isNumber_50 : decode cX3_isNumber 50 = .ok (.ireturn, 1) := by decide +kernel
theorem dX3_isNumber_51 : decode cX3_isNumber 51 = .ok (.iconst 0, 1) := by decide +kernel
theorem dX3_isNumber_52 : decode cX3_isNumber 52 = .ok (.istore_n 3, 1) := by decide +kernel
theorem dX3_isNumber_53 : decode cX3_isNumber 53 = .ok (.aload_n 0, 1) := by decide +kernel
theorem dX3_isNumber_54 : decode cX3_isNumber 54 = .ok (.getfield 39, 3) := by decide +kernel
theorem dX3_isNumber_57 : decode cX3_isNumber 57 = .ok (.istore 4, 2) := by decide +kernel
theorem dX3_isNumber_59 : decode cX3_isNumber 59 = .ok (.iload 4, 2) := by decide +kernel
theorem dX3_isNumber_61 : decode cX3_isNumber 61 = .ok (.aload_n 0, 1) := by decide +kernel
theorem dX3_isNumber_62 : decode cX3_isNumber 62 = .ok (.getfield 28, 3) := by decide +kernel
theorem dX3_isNumber_65 : decode cX3_isNumber 65 = .ok (.if_icmp .ge 28, 3) := by decide +kernel
theorem dX3_isNumber_68 : decode cX3_isNumber 68 = .ok (.iload_n 3, 1) := by decide +kernel
theorem dX3_isNumber_69 : decode cX3_isNumber 69 = .ok (.bipush 10, 2) := by decide +kernel
theorem dX3_isNumber_71 : decode cX3_isNumber 71 = .ok (.imul, 1) := by decide +kernel
theorem dX3_isNumber_72 : decode cX3_isNumber 72 = .ok (.aload_n 0, 1) := by decide +kernel
theorem dX3_isNumber_73 : decode cX3_isNumber 73 = .ok (.getfield 12, 3) := by decide +kernel
theorem dX3_isNumber_76 : decode cX3_isNumber 76 = .ok (.getfield 45, 3) := by decide +kernel
theorem dX3_isNumber_79 : decode cX3_isNumber 79 = .ok (.iload 4, 2) := by decide +kernel
theorem dX3_isNumber_81 : decode cX3_isNumber 81 = .ok (.iaload, 1) := by decide +kernel
theorem dX3_isNumber_82 : decode cX3_isNumber 82 = .ok (.iadd, 1) := by decide +kernel
theorem dX3_isNumber_83 : decode cX3_isNumber 83 = .ok (.bipush 48, 2) := by decide +kernel
theorem dX3_isNumber_85 : decode cX3_isNumber 85 = .ok (.isub, 1) := by decide +kernel
theorem dX3_isNumber_86 : decode cX3_isNumber 86 = .ok (.istore_n 3, 1) := by decide +kernel
theorem dX3_isNumber_87 : decode cX3_isNumber 87 = .ok (.iinc 4 1, 3) := by decide +kernel
theorem dX3_isNumber_90 : decode cX3_isNumber 90 = .ok (.goto (-31), 3) := by decide +kernel
theorem dX3_isNumber_93 : decode cX3_isNumber 93 = .ok (.iload_n 3, 1) := by decide +kernel
theorem dX3_isNumber_94 : decode cX3_isNumber 94 = .ok (.iload_n 2, 1) := by decide +kernel
theorem dX3_isNumber_95 : decode cX3_isNumber 95 = .ok (.if_icmp .le 5, 3) := by decide +kernel
theorem dX3_isNumber_98 : decode cX3_isNumber 98 = .ok (.iconst 0, 1) := by decide +kernel
theorem dX3_isNumber_99 : decode cX3_isNumber 99 = .ok (.ireturn, 1) := by decide +kernel
theorem dX3_isNumber_100 : decode cX3_isNumber 100 = .ok (.aload_n 0, 1) := by decide +kernel
theorem dX3_isNumber_101 : decode cX3_isNumber 101 = .ok (.getfield 18, 3) := by decide +kernel
theorem dX3_isNumber_104 : decode cX3_isNumber 104 = .ok (.iload_n 1, 1) := by decide +kernel
theorem dX3_isNumber_105 : decode cX3_isNumber 105 = .ok (.iload_n 3, 1) := by decide +kernel
theorem dX3_isNumber_106 : decode cX3_isNumber 106 = .ok (.iastore, 1) := by decide +kernel
theorem dX3_isNumber_107 : decode cX3_isNumber 107 = .ok (.iconst 1, 1) := by decide +kernel
theorem dX3_isNumber_108 : decode cX3_isNumber 108 = .ok (.ireturn, 1) := by decide +kernel
set_option maxRecDepth 20000 in
theorem ggX3_isWord_J0_length_8abf5 : GoodIn wsX3_isWord wsJ0_length_8abf5 := goodIn_r _ [9, 10, 11, 12, 13, 8, 14, 15, 16] (by decide +kernel) (by decide +kernel)
set_option maxRecDepth 20000 in
theorem gX3_isWord_J0_length_8abf5 : GoodIn wsX3_isWord (wsV RX3 75 RJ0 yJ0_length_8abf5 wsJ0_length_8abf5) := goodIn_app (goodIn_of _ (by decide +kernel)) ggX3_isWord_J0_length_8abf5
set_option maxRecDepth 20000 in
theorem ggX3_isWord_J0_charAt_5068e : GoodIn wsX3_isWord wsJ0_charAt_5068e := goodIn_r _ [20, 10, 21, 22, 23, 8, 24, 15, 16, 25, 26, 27, 28, 29, 30, 31, 32, 33, 34, 35, 36, 37, 38, 39, 40, 41, 42, 43, 44, 45, 46, 47, 48, 49, 50, 51, 52, 53] (by decide +kernel) (by decide +kernel)
set_option maxRecDepth 20000 in
theorem gX3_isWord_J0_charAt_5068e : GoodIn wsX3_isWord (wsV RX3 80 RJ0 yJ0_charAt_5068e wsJ0_charAt_5068e) := goodIn_app (goodIn_of _ (by decide +kernel)) ggX3_isWord_J0_charAt_5068e
theorem dX3_isWord_0 : decode cX3_isWord 0 = .ok (.aload_n 0, 1) := by decide +kernel
theorem dX3_isWord_1 : decode cX3_isWord 1 = .ok (.getfield 28, 3) := by decide +kernel
theorem dX3_isWord_4 : decode cX3_isWord 4 = .ok (.aload_n 0, 1) := by decide +kernel
theorem dX3_isWord_5 : decode cX3_isWord 5 = .ok (.getfield 39, 3) := by decide +kernel
theorem dX3_isWord_8 : decode cX3_isWord 8 = .ok (.isub, 1) := by decide +kernel
theorem dX3_isWord_9 : decode cX3_isWord 9 = .ok (.aload_n 1, 1) := by decide +kernel
theorem dX3_isWord_10 : decode cX3_isWord 10 = .ok (.invokevirtual 75, 3) := by decide +kernel
theorem dX3_isWord_13 : decode cX3_isWord 13 = .ok (.if_icmp .eq 5, 3) := by decide +kernel
theorem dX3_isWord_16 : decode cX3_isWord 16 = .ok (.iconst 0, 1) := by decide +kernel
theorem dX3_isWord_17 : decode cX3_isWord 17 = .ok (.ireturn, 1) := by decide +kernel
theorem dX3_isWord_18 : decode cX3_isWord 18 = .ok (.iconst 0, 1) := by decide +kernel
theorem dX3_isWord_19 : decode cX3_isWord 19 = .ok (.istore_n 2, 1) := by decide +kernel
theorem dX3_isWord_20 : decode cX3_isWord 20 = .ok (.iload_n 2, 1) := by decide +kernel
theorem dX3_isWord_21 : decode cX3_isWord 21 = .ok (.aload_n 1, 1) := by decide +kernel
theorem dX3_isWord_22 : decode cX3_isWord 22 = .ok (.invokevirtual 75, 3) := by decide +kernel
theorem dX3_isWord_25 : decode cX3_isWord 25 = .ok (.if_icmp .ge 33, 3) := by decide +kernel
theorem dX3_isWord_28 : decode cX3_isWord 28 = .ok (.aload_n 0, 1) := by decide +kernel
theorem dX3_isWord_29 : decode cX3_isWord 29 = .ok (.getfield 12, 3) := by decide +kernel
theorem dX3_isWord_32 : decode cX3_isWord 32 = .ok (.getfield 45, 3) := by decide +kernel
theorem dX3_isWord_35 : decode cX3_isWord 35 = .ok (.aload_n 0, 1) := by decide +kernel
theorem dX3_isWord_36 : decode cX3_isWord 36 = .ok (.getfield 39, 3) := by decide +kernel
theorem dX3_isWord_39 : decode cX3_isWord 39 = .ok (.iload_n 2, 1) := by decide +kernel
theorem dX3_isWord_40 : decode cX3_isWord 40 = .ok (.iadd, 1) := by decide +kernel
theorem dX3_isWord_41 : decode cX3_isWord 41 = .ok (.iaload, 1) := by decide +kernel
theorem dX3_isWord_42 : decode cX3_isWord 42 = .ok (.aload_n 1, 1) := by decide +kernel
theorem dX3_isWord_43 : decode cX3_isWord 43 = .ok (.iload_n 2, 1) := by decide +kernel
theorem dX3_isWord_44 : decode cX3_isWord 44 = .ok (.invokevirtual 80, 3) := by decide +kernel
theorem dX3_isWord_47 : decode cX3_isWord 47 = .ok (.if_icmp .eq 5, 3) := by decide +kernel
theorem dX3_isWord_50 : decode cX3_isWord 50 = .ok (.iconst 0, 1) := by decide +kernel
theorem dX3_isWord_51 : decode cX3_isWord 51 = .ok (.ireturn, 1) := by decide +kernel
theorem dX3_isWord_52 : decode cX3_isWord 52 = .ok (.iinc 2 1, 3) := by decide +kernel
theorem dX3_isWord_55 : decode cX3_isWord 55 = .ok (.goto (-35), 3) := by decide +kernel
theorem dX3_isWord_58 : decode cX3_isWord 58 = .ok (.iconst 1, 1) := by decide +kernel
theorem dX3_isWord_59 : decode cX3_isWord 59 = .ok (.ireturn, 1) := by decide +kernel
set_option maxRecDepth 20000 in
theorem ggX3_takeThing_X3_isLetter : GoodIn wsX3_takeThing wsX3_isLetter := goodIn_r _ [9, 10, 11, 12] (by decide +kernel) (by decide +kernel)
set_option maxRecDepth 20000 in
theorem gX3_takeThing_X3_isLetter : GoodIn wsX3_takeThing (va_wsS RX3 84 yX3_isLetter wsX3_isLetter) := goodIn_app (goodIn_of _ (by decide +kernel)) ggX3_takeThing_X3_isLetter
set_option maxRecDepth 20000 in
theorem ggX3_takeThing_X3_isDigit : GoodIn wsX3_takeThing wsX3_isDigit := goodIn_r _ [15, 10, 11, 12] (by decide +kernel) (by decide +kernel)
set_option maxRecDepth 20000 in
theorem gX3_takeThing_X3_isDigit : GoodIn wsX3_takeThing (va_wsS RX3 71 yX3_isDigit wsX3_isDigit) := goodIn_app (goodIn_of _ (by decide +kernel)) ggX3_takeThing_X3_isDigit
theorem dX3_takeThing_0 : decode cX3_takeThing 0 = .ok (.aload_n 0, 1) := by decide +kernel
theorem dX3_takeThing_1 : decode cX3_takeThing 1 = .ok (.aload_n 0, 1) := by decide +kernel
theorem dX3_takeThing_2 : decode cX3_takeThing 2 = .ok (.getfield 28, 3) := by decide +kernel
theorem dX3_takeThing_5 : decode cX3_takeThing 5 = .ok (.putfield 39, 3) := by decide +kernel
theorem dX3_takeThing_8 : decode cX3_takeThing 8 = .ok (.aload_n 0, 1) := by decide +kernel
theorem dX3_takeThing_9 : decode cX3_takeThing 9 = .ok (.getfield 39, 3) := by decide +kernel
theorem dX3_takeThing_12 : decode cX3_takeThing 12 = .ok (.aload_n 0, 1) := by decide +kernel
theorem dX3_takeThing_13 : decode cX3_takeThing 13 = .ok (.getfield 12, 3) := by decide +kernel
theorem dX3_takeThing_16 : decode cX3_takeThing 16 = .ok (.getfield 42, 3) := by decide +kernel
theorem dX3_takeThing_19 : decode cX3_takeThing 19 = .ok (.if_icmp .ge 33, 3) := by decide +kernel
theorem dX3_takeThing_22 : decode cX3_takeThing 22 = .ok (.aload_n 0, 1) := by decide +kernel
theorem dX3_takeThing_23 : decode cX3_takeThing 23 = .ok (.getfield 12, 3) := by decide +kernel
theorem dX3_takeThing_26 : decode cX3_takeThing 26 = .ok (.getfield 45, 3) := by decide +kernel
theorem dX3_takeThing_29 : decode cX3_takeThing 29 = .ok (.aload_n 0, 1) := by decide +kernel
theorem dX3_takeThing_30 : decode cX3_takeThing 30 = .ok (.getfield 39, 3) := by decide +kernel
theorem dX3_takeThing_33 : decode cX3_takeThing 33 = .ok (.iaload, 1) := by decide +kernel
theorem dX3_takeThing_34 : decode cX3_takeThing 34 = .ok (.bipush 32, 2) := by decide +kernel
theorem dX3_takeThing_36 : decode cX3_takeThing 36 = .ok (.if_icmp .ne 16, 3) := by decide +kernel
theorem dX3_takeThing_39 : decode cX3_takeThing 39 = .ok (.aload_n 0, 1) := by decide +kernel
theorem dX3_takeThing_40 : decode cX3_takeThing 40 = .ok (.dup, 1) := by decide +kernel
theorem dX3_takeThing_41 : decode cX3_takeThing 41 = .ok (.getfield 39, 3) := by decide +kernel
theorem dX3_takeThing_44 : decode cX3_takeThing 44 = .ok (.iconst 1, 1) := by decide +kernel
theorem dX3_takeThing_45 : decode cX3_takeThing 45 = .ok (.iadd, 1) := by decide +kernel
theorem dX3_takeThing_46 : decode cX3_takeThing 46 = .ok (.putfield 39, 3) := by decide +kernel
theorem dX3_takeThing_49 : decode cX3_takeThing 49 = .ok (.goto (-41), 3) := by decide +kernel
theorem dX3_takeThing_52 : decode cX3_takeThing 52 = .ok (.aload_n 0, 1) := by decide +kernel
theorem dX3_takeThing_53 : decode cX3_takeThing 53 = .ok (.aload_n 0, 1) := by decide +kernel
theorem dX3_takeThing_54 : decode cX3_takeThing 54 = .ok (.getfield 39, 3) := by decide +kernel
theorem dX3_takeThing_57 : decode cX3_takeThing 57 = .ok (.putfield 28, 3) := by decide +kernel
theorem dX3_takeThing_60 : decode cX3_takeThing 60 = .ok (.aload_n 0, 1) := by decide +kernel
theorem dX3_takeThing_61 : decode cX3_takeThing 61 = .ok (.getfield 28, 3) := by decide +kernel
theorem dX3_takeThing_64 : decode cX3_takeThing 64 = .ok (.aload_n 0, 1) := by decide +kernel
theorem dX3_takeThing_65 : decode cX3_takeThing 65 = .ok (.getfield 12, 3) := by decide +kernel
theorem dX3_takeThing_68 : decode cX3_takeThing 68 = .ok (.getfield 42, 3) := by decide +kernel
theorem dX3_takeThing_71 : decode cX3_takeThing 71 = .ok (.if_icmp .ge 34, 3) := by decide +kernel
theorem dX3_takeThing_74 : decode cX3_takeThing 74 = .ok (.aload_n 0, 1) := by decide +kernel
theorem dX3_takeThing_75 : decode cX3_takeThing 75 = .ok (.getfield 12, 3) := by decide +kernel
theorem dX3_takeThing_78 : decode cX3_takeThing 78 = .ok (.getfield 45, 3) := by decide +kernel
theorem dX3_takeThing_81 : decode cX3_takeThing 81 = .ok (.aload_n 0, 1) := by decide +kernel
theorem dX3_takeThing_82 : decode cX3_takeThing 82 = .ok (.getfield 28, 3) := by decide +kernel
theorem dX3_takeThing_85 : decode cX3_takeThing 85 = .ok (.iaload, 1) := by decide +kernel
theorem dX3_takeThing_86 : decode cX3_takeThing 86 = .ok (.invokestatic 84, 3) := by decide +kernel
theorem dX3_takeThing_89 : decode cX3_takeThing 89 = .ok (.ifCond .eq 16, 3) := by decide +kernel
theorem dX3_takeThing_92 : decode cX3_takeThing 92 = .ok (.aload_n 0, 1) := by decide +kernel
theorem dX3_takeThing_93 : decode cX3_takeThing 93 = .ok (.dup, 1) := by decide +kernel
theorem dX3_takeThing_94 : decode cX3_takeThing 94 = .ok (.getfield 28, 3) := by decide +kernel
theorem dX3_takeThing_97 : decode cX3_takeThing 97 = .ok (.iconst 1, 1) := by decide +kernel
theorem dX3_takeThing_98 : decode cX3_takeThing 98 = .ok (.iadd, 1) := by decide +kernel
theorem dX3_takeThing_99 : decode cX3_takeThing 99 = .ok (.putfield 28, 3) := by decide +kernel
theorem dX3_takeThing_102 : decode cX3_takeThing 102 = .ok (.goto (-42), 3) := by decide +kernel
theorem dX3_takeThing_105 : decode cX3_takeThing 105 = .ok (.aload_n 0, 1) := by decide +kernel
theorem dX3_takeThing_106 : decode cX3_takeThing 106 = .ok (.getfield 28, 3) := by decide +kernel
theorem dX3_takeThing_109 : decode cX3_takeThing 109 = .ok (.aload_n 0, 1) := by decide +kernel
theorem dX3_takeThing_110 : decode cX3_takeThing 110 = .ok (.getfield 39, 3) := by decide +kernel
theorem dX3_takeThing_113 : decode cX3_takeThing 113 = .ok (.if_icmp .le 4, 3) := by decide +kernel
theorem dX3_takeThing_116 : decode cX3_takeThing 116 = .ok (.return_, 1) := by decide +kernel
theorem dX3_takeThing_117 : decode cX3_takeThing 117 = .ok (.aload_n 0, 1) := by decide +kernel
theorem dX3_takeThing_118 : decode cX3_takeThing 118 = .ok (.getfield 28, 3) := by decide +kernel
theorem dX3_takeThing_121 : decode cX3_takeThing 121 = .ok (.aload_n 0, 1) := by decide +kernel
theorem dX3_takeThing_122 : decode cX3_takeThing 122 = .ok (.getfield 12, 3) := by decide +kernel
theorem dX3_takeThing_125 : decode cX3_takeThing 125 = .ok (.getfield 42, 3) := by decide +kernel
theorem dX3_takeThing_128 : decode cX3_takeThing 128 = .ok (.if_icmp .ge 34, 3) := by decide +kernel
theorem dX3_takeThing_131 : decode cX3_takeThing 131 = .ok (.aload_n 0, 1) := by decide +kernel
theorem dX3_takeThing_132 : decode cX3_takeThing 132 = .ok (.getfield 12, 3) := by decide +kernel
theorem dX3_takeThing_135 : decode cX3_takeThing 135 = .ok (.getfield 45, 3) := by decide +kernel
theorem dX3_takeThing_138 : decode cX3_takeThing 138 = .ok (.aload_n 0, 1) := by decide +kernel
theorem dX3_takeThing_139 : decode cX3_takeThing 139 = .ok (.getfield 28, 3) := by decide +kernel
theorem dX3_takeThing_142 : decode cX3_takeThing 142 = .ok (.iaload, 1) := by decide +kernel
theorem dX3_takeThing_143 : decode cX3_takeThing 143 = .ok (.invokestatic 71, 3) := by decide +kernel
theorem dX3_takeThing_146 : decode cX3_takeThing 146 = .ok (.ifCond .eq 16, 3) := by decide +kernel
theorem dX3_takeThing_149 : decode cX3_takeThing 149 = .ok (.aload_n 0, 1) := by decide +kernel
theorem dX3_takeThing_150 : decode cX3_takeThing 150 = .ok (.dup, 1) := by decide +kernel
theorem dX3_takeThing_151 : decode cX3_takeThing 151 = .ok (.getfield 28, 3) := by decide +kernel
theorem dX3_takeThing_154 : decode cX3_takeThing 154 = .ok (.iconst 1, 1) := by decide +kernel
theorem dX3_takeThing_155 : decode cX3_takeThing 155 = .ok (.iadd, 1) := by decide +kernel
theorem dX3_takeThing_156 : decode cX3_takeThing 156 = .ok (.putfield 28, 3) := by decide +kernel
theorem dX3_takeThing_159 : decode cX3_takeThing 159 = .ok (.goto (-42), 3) := by decide +kernel
theorem dX3_takeThing_162 : decode cX3_takeThing 162 = .ok (.aload_n 0, 1) := by decide +kernel
theorem dX3_takeThing_163 : decode cX3_takeThing 163 = .ok (.getfield 28, 3) := by decide +kernel
theorem dX3_takeThing_166 : decode cX3_takeThing 166 = .ok (.aload_n 0, 1) := by decide +kernel
theorem dX3_takeThing_167 : decode cX3_takeThing 167 = .ok (.getfield 39, 3) := by decide +kernel
theorem dX3_takeThing_170 : decode cX3_takeThing 170 = .ok (.if_icmp .ne 27, 3) := by decide +kernel
theorem dX3_takeThing_173 : decode cX3_takeThing 173 = .ok (.aload_n 0, 1) := by decide +kernel
theorem dX3_takeThing_174 : decode cX3_takeThing 174 = .ok (.getfield 39, 3) := by decide +kernel
theorem dX3_takeThing_177 : decode cX3_takeThing 177 = .ok (.aload_n 0, 1) := by decide +kernel
theorem dX3_takeThing_178 : decode cX3_takeThing 178 = .ok (.getfield 12, 3) := by decide +kernel
theorem dX3_takeThing_181 : decode cX3_takeThing 181 = .ok (.getfield 42, 3) := by decide +kernel
theorem dX3_takeThing_184 : decode cX3_takeThing 184 = .ok (.if_icmp .ge 13, 3) := by decide +kernel
theorem dX3_takeThing_187 : decode cX3_takeThing 187 = .ok (.aload_n 0, 1) := by decide +kernel
theorem dX3_takeThing_188 : decode cX3_takeThing 188 = .ok (.dup, 1) := by decide +kernel
theorem dX3_takeThing_189 : decode cX3_takeThing 189 = .ok (.getfield 28, 3) := by decide +kernel
theorem dX3_takeThing_192 : decode cX3_takeThing 192 = .ok (.iconst 1, 1) := by decide +kernel
theorem dX3_takeThing_193 : decode cX3_takeThing 193 = .ok (.iadd, 1) := by decide +kernel
theorem dX3_takeThing_194 : decode cX3_takeThing 194 = .ok (.putfield 28, 3) := by decide +kernel
theorem dX3_takeThing_197 : decode cX3_takeThing 197 = .ok (.return_, 1) := by decide +kernel
set_option maxRecDepth 20000 in
theorem ggX3_isLetter_X6_isWithin : GoodIn wsX3_isLetter wsX6_isWithin := goodIn_r _ [3] (by decide +kernel) (by decide +kernel)
set_option maxRecDepth 20000 in
theorem gX3_isLetter_X6_isWithin_n87 : GoodIn wsX3_isLetter (wsX6_isWithin) := ggX3_isLetter_X6_isWithin
theorem dX3_isLetter_0 : decode cX3_isLetter 0 = .ok (.iload_n 0, 1) := by decide +kernel
theorem dX3_isLetter_1 : decode cX3_isLetter 1 = .ok (.bipush 97, 2) := by decide +kernel
theorem dX3_isLetter_3 : decode cX3_isLetter 3 = .ok (.bipush 122, 2) := by decide +kernel
theorem dX3_isLetter_5 : decode cX3_isLetter 5 = .ok (.invokestatic 87, 3) := by decide +kernel
theorem dX3_isLetter_8 : decode cX3_isLetter 8 = .ok (.ireturn, 1) := by decide +kernel
set_option maxRecDepth 20000 in
theorem ggX3_isDigit_X6_isWithin : GoodIn wsX3_isDigit wsX6_isWithin := goodIn_r _ [3] (by decide +kernel) (by decide +kernel)
set_option maxRecDepth 20000 in
theorem gX3_isDigit_X6_isWithin_n87 : GoodIn wsX3_isDigit (wsX6_isWithin) := ggX3_isDigit_X6_isWithin
theorem dX3_isDigit_0 : decode cX3_isDigit 0 = .ok (.iload_n 0, 1) := by decide +kernel
theorem dX3_isDigit_1 : decode cX3_isDigit 1 = .ok (.bipush 48, 2) := by decide +kernel
theorem dX3_isDigit_3 : decode cX3_isDigit 3 = .ok (.bipush 57, 2) := by decide +kernel
theorem dX3_isDigit_5 : decode cX3_isDigit 5 = .ok (.invokestatic 87, 3) := by decide +kernel
theorem dX3_isDigit_8 : decode cX3_isDigit 8 = .ok (.ireturn, 1) := by decide +kernel
theorem dX4_init_0 : decode cX4_init 0 = .ok (.aload_n 0, 1) := by decide +kernel
theorem dX4_init_1 : decode cX4_init 1 = .ok (.invokespecial 3, 3) := by decide +kernel
theorem dX4_init_4 : decode cX4_init 4 = .ok (.return_, 1) := by decide +kernel
theorem dX4_become_0 : decode cX4_become 0 = .ok (.aload_n 0, 1) := by decide +kernel
theorem dX4_become_1 : decode cX4_become 1 = .ok (.iload_n 1, 1) := by decide +kernel
theorem dX4_become_2 : decode cX4_become 2 = .ok (.putfield 9, 3) := by decide +kernel
theorem dX4_become_5 : decode cX4_become 5 = .ok (.aload_n 0, 1) := by decide +kernel
theorem dX4_become_6 : decode cX4_become 6 = .ok (.iload_n 2, 1) := by decide +kernel
theorem dX4_become_7 : decode cX4_become 7 = .ok (.putfield 15, 3) := by decide +kernel
theorem dX4_become_10 : decode cX4_become 10 = .ok (.aload_n 0, 1) := by decide +kernel
theorem dX4_become_11 : decode cX4_become 11 = .ok (.iload_n 3, 1) := by decide +kernel
theorem dX4_become_12 : decode cX4_become 12 = .ok (.putfield 18, 3) := by decide +kernel
theorem dX4_become_15 : decode cX4_become 15 = .ok (.aload_n 0, 1) := by decide +kernel
theorem dX4_become_16 : decode cX4_become 16 = .ok (.iload 4, 2) := by decide +kernel
theorem dX4_become_18 : decode cX4_become 18 = .ok (.putfield 21, 3) := by decide +kernel
theorem dX4_become_21 : decode cX4_become 21 = .ok (.aload_n 0, 1) := by decide +kernel
theorem dX4_become_22 : decode cX4_become 22 = .ok (.iconst (-1), 1) := by decide +kernel
theorem dX4_become_23 : decode cX4_become 23 = .ok (.putfield 24, 3) := by decide +kernel
theorem dX4_become_26 : decode cX4_become 26 = .ok (.aload_n 0, 1) := by decide +kernel
theorem dX4_become_27 : decode cX4_become 27 = .ok (.iconst 0, 1) := by decide +kernel
theorem dX4_become_28 : decode cX4_become 28 = .ok (.putfield 27, 3) := by decide +kernel
theorem dX4_become_31 : decode cX4_become 31 = .ok (.aload_n 0, 1) := by decide +kernel
theorem dX4_become_32 : decode cX4_become 32 = .ok (.iconst 0, 1) := by decide +kernel
theorem dX4_become_33 : decode cX4_become 33 = .ok (.putfield 30, 3) := by decide +kernel
theorem dX4_become_36 : decode cX4_become 36 = .ok (.return_, 1) := by decide +kernel
theorem dX4_isLetFrom_0 : decode cX4_isLetFrom 0 = .ok (.aload_n 0, 1) := by decide +kernel
theorem dX4_isLetFrom_1 : decode cX4_isLetFrom 1 = .ok (.getfield 30, 3) := by decide +kernel
theorem dX4_isLetFrom_4 : decode cX4_isLetFrom 4 = .ok (.iload_n 1, 1) := by decide +kernel
theorem dX4_isLetFrom_5 : decode cX4_isLetFrom 5 = .ok (.if_icmp .le 7, 3) := by decide +kernel
theorem dX4_isLetFrom_8 : decode cX4_isLetFrom 8 = .ok (.iconst 1, 1) := by decide +kernel
theorem dX4_isLetFrom_9 : decode cX4_isLetFrom 9 = .ok (.goto 4, 3) := by decide +kernel
theorem dX4_isLetFrom_12 : decode cX4_isLetFrom 12 = .ok (.iconst 0, 1) := by decide +kernel
theorem dX4_isLetFrom_13 : decode cX4_isLetFrom 13 = .ok (.ireturn, 1) := by decide +kernel
theorem dX4_heldBy_0 : decode cX4_heldBy 0 = .ok (.aload_n 0, 1) := by decide +kernel
theorem dX4_heldBy_1 : decode cX4_heldBy 1 = .ok (.getfield 27, 3) := by decide +kernel
theorem dX4_heldBy_4 : decode cX4_heldBy 4 = .ok (.iload_n 1, 1) := by decide +kernel
theorem dX4_heldBy_5 : decode cX4_heldBy 5 = .ok (.if_icmp .gt 18, 3) := by decide +kernel
theorem dX4_heldBy_8 : decode cX4_heldBy 8 = .ok (.iload_n 1, 1) := by decide +kernel
theorem dX4_heldBy_9 : decode cX4_heldBy 9 = .ok (.aload_n 0, 1) := by decide +kernel
theorem dX4_heldBy_10 : decode cX4_heldBy 10 = .ok (.getfield 30, 3) := by decide +kernel
theorem dX4_heldBy_13 : decode cX4_heldBy 13 = .ok (.if_icmp .ge 10, 3) := by decide +kernel
theorem dX4_heldBy_16 : decode cX4_heldBy 16 = .ok (.aload_n 0, 1) := by decide +kernel
theorem dX4_heldBy_17 : decode cX4_heldBy 17 = .ok (.getfield 24, 3) := by decide +kernel
theorem dX4_heldBy_20 : decode cX4_heldBy 20 = .ok (.goto 7, 3) := by decide +kernel
theorem dX4_heldBy_23 : decode cX4_heldBy 23 = .ok (.aload_n 0, 1) := by decide +kernel
theorem dX4_heldBy_24 : decode cX4_heldBy 24 = .ok (.getfield 21, 3) := by decide +kernel
theorem dX4_heldBy_27 : decode cX4_heldBy 27 = .ok (.ireturn, 1) := by decide +kernel
theorem dX5_init_0 : decode cX5_init 0 = .ok (.aload_n 0, 1) := by decide +kernel
theorem dX5_init_1 : decode cX5_init 1 = .ok (.invokespecial 3, 3) := by decide +kernel
theorem dX5_init_4 : decode cX5_init 4 = .ok (.aload_n 0, 1) := by decide +kernel
theorem dX5_init_5 : decode cX5_init 5 = .ok (.sipush 400, 3) := by decide +kernel
theorem dX5_init_8 : decode cX5_init 8 = .ok (.newarray .int, 2) := by decide +kernel
theorem dX5_init_10 : decode cX5_init 10 = .ok (.putfield 9, 3) := by decide +kernel
theorem dX5_init_13 : decode cX5_init 13 = .ok (.return_, 1) := by decide +kernel
theorem dX5_append_0 : decode cX5_append 0 = .ok (.bipush 24, 2) := by decide +kernel
theorem dX5_append_2 : decode cX5_append 2 = .ok (.istore_n 2, 1) := by decide +kernel
theorem dX5_append_3 : decode cX5_append 3 = .ok (.iload_n 2, 1) := by decide +kernel
theorem dX5_append_4 : decode cX5_append 4 = .ok (.ifCond .lt 45, 3) := by decide +kernel
theorem dX5_append_7 : decode cX5_append 7 = .ok (.aload_n 0, 1) := by decide +kernel
theorem dX5_append_8 : decode cX5_append 8 = .ok (.getfield 15, 3) := by decide +kernel
theorem dX5_append_11 : decode cX5_append 11 = .ok (.sipush 400, 3) := by decide +kernel
theorem dX5_append_14 : decode cX5_append 14 = .ok (.if_icmp .ge 35, 3) := by decide +kernel
theorem dX5_append_17 : decode cX5_append 17 = .ok (.aload_n 0, 1) := by decide +kernel
theorem dX5_append_18 : decode cX5_append 18 = .ok (.getfield 9, 3) := by decide +kernel
theorem dX5_append_21 : decode cX5_append 21 = .ok (.aload_n 0, 1) := by decide +kernel
theorem dX5_append_22 : decode cX5_append 22 = .ok (.getfield 15, 3) := by decide +kernel
theorem dX5_append_25 : decode cX5_append 25 = .ok (.iload_n 1, 1) := by decide +kernel
theorem dX5_append_26 : decode cX5_append 26 = .ok (.iload_n 2, 1) := by decide +kernel
theorem dX5_append_27 : decode cX5_append 27 = .ok (.iushr, 1) := by decide +kernel
theorem dX5_append_28 : decode cX5_append 28 = .ok (.sipush 255, 3) := by decide +kernel
theorem dX5_append_31 : decode cX5_append 31 = .ok (.iand, 1) := by decide +kernel
theorem dX5_append_32 : decode cX5_append 32 = .ok (.iastore, 1) := by decide +kernel
theorem dX5_append_33 : decode cX5_append 33 = .ok (.aload_n 0, 1) := by decide +kernel
theorem dX5_append_34 : decode cX5_append 34 = .ok (.dup, 1) := by decide +kernel
theorem dX5_append_35 : decode cX5_append 35 = .ok (.getfield 15, 3) := by decide +kernel
theorem dX5_append_38 : decode cX5_append 38 = .ok (.iconst 1, 1) := by decide +kernel
theorem dX5_append_39 : decode cX5_append 39 = .ok (.iadd, 1) := by decide +kernel
theorem dX5_append_40 : decode cX5_append 40 = .ok (.putfield 15, 3) := by decide +kernel
theorem dX5_append_43 : decode cX5_append 43 = .ok (.iinc 2 (-8), 3) := by decide +kernel
theorem dX5_append_46 : decode cX5_append 46 = .ok (.goto (-43), 3) := by decide +kernel
theorem dX5_append_49 : decode cX5_append 49 = .ok (.return_, 1) := by decide +kernel
set_option maxRecDepth 20000 in
theorem ggX6_init_X3_init : GoodIn wsX6_init wsX3_init := goodIn_r _ [33, 34, 2, 3, 35, 36, 37, 38, 10, 39, 40, 41, 42, 43, 111, 112, 68, 69, 70, 71] (by decide +kernel) (by decide +kernel)
set_option maxRecDepth 20000 in
theorem gX6_init_X3_init_n9 : GoodIn wsX6_init (wsX3_init) := ggX6_init_X3_init
set_option maxRecDepth 20000 in
theorem ggX6_init_X0_init : GoodIn wsX6_init wsX0_init := goodIn_r _ [45, 46, 2, 3, 10, 47, 48, 49, 50, 51, 88, 89, 90, 91, 92, 93, 94, 95] (by decide +kernel) (by decide +kernel)
set_option maxRecDepth 20000 in
theorem gX6_init_X0_init_n35 : GoodIn wsX6_init (wsX0_init) := ggX6_init_X0_init
set_option maxRecDepth 20000 in
theorem ggX6_init_X4_init : GoodIn wsX6_init wsX4_init := goodIn_r _ [53, 54, 2, 3] (by decide +kernel) (by decide +kernel)
set_option maxRecDepth 20000 in
theorem gX6_init_X4_init_n48 : GoodIn wsX6_init (wsX4_init) := ggX6_init_X4_init
set_option maxRecDepth 20000 in
theorem ggX6_init_X2_init : GoodIn wsX6_init wsX2_init := goodIn_r _ [56, 57, 2, 3, 10, 58, 59, 60, 103, 104, 105] (by decide +kernel) (by decide +kernel)
set_option maxRecDepth 20000 in
theorem gX6_init_X2_init_n51 : GoodIn wsX6_init (wsX2_init) := ggX6_init_X2_init
set_option maxRecDepth 20000 in
theorem ggX6_init_X1_init : GoodIn wsX6_init wsX1_init := goodIn_r _ [62, 63, 2, 3, 10, 64, 65, 66, 67, 106, 107, 108, 109, 110] (by decide +kernel) (by decide +kernel)
set_option maxRecDepth 20000 in
theorem gX6_init_X1_init_n61 : GoodIn wsX6_init (wsX1_init) := ggX6_init_X1_init
theorem dX6_init_0 : decode cX6_init 0 = .ok (.aload_n 0, 1) := by decide +kernel
theorem dX6_init_1 : decode cX6_init 1 = .ok (.invokespecial 1, 3) := by decide +kernel
theorem dX6_init_4 : decode cX6_init 4 = .ok (.aload_n 0, 1) := by decide +kernel
theorem dX6_init_5 : decode cX6_init 5 = .ok (.new 7, 3) := by decide +kernel
theorem dX6_init_8 : decode cX6_init 8 = .ok (.dup, 1) := by decide +kernel
theorem dX6_init_9 : decode cX6_init 9 = .ok (.invokespecial 9, 3) := by decide +kernel
theorem dX6_init_12 : decode cX6_init 12 = .ok (.putfield 10, 3) := by decide +kernel
theorem dX6_init_15 : decode cX6_init 15 = .ok (.aload_n 0, 1) := by decide +kernel
theorem dX6_init_16 : decode cX6_init 16 = .ok (.aload_n 0, 1) := by decide +kernel
theorem dX6_init_17 : decode cX6_init 17 = .ok (.getfield 10, 3) := by decide +kernel
theorem dX6_init_20 : decode cX6_init 20 = .ok (.getfield 16, 3) := by decide +kernel
theorem dX6_init_23 : decode cX6_init 23 = .ok (.putfield 20, 3) := by decide +kernel
theorem dX6_init_26 : decode cX6_init 26 = .ok (.aload_n 0, 1) := by decide +kernel
theorem dX6_init_27 : decode cX6_init 27 = .ok (.iconst 4, 1) := by decide +kernel
theorem dX6_init_28 : decode cX6_init 28 = .ok (.newarray .int, 2) := by decide +kernel
theorem dX6_init_30 : decode cX6_init 30 = .ok (.putfield 21, 3) := by decide +kernel
theorem dX6_init_33 : decode cX6_init 33 = .ok (.aload_n 0, 1) := by decide +kernel
theorem dX6_init_34 : decode cX6_init 34 = .ok (.iconst (-1), 1) := by decide +kernel
theorem dX6_init_35 : decode cX6_init 35 = .ok (.putfield 25, 3) := by decide +kernel
theorem dX6_init_38 : decode cX6_init 38 = .ok (.aload_n 0, 1) := by decide +kernel
theorem dX6_init_39 : decode cX6_init 39 = .ok (.bipush 8, 2) := by decide +kernel
theorem dX6_init_41 : decode cX6_init 41 = .ok (.anewarray 29, 3) := by decide +kernel
theorem dX6_init_44 : decode cX6_init 44 = .ok (.putfield 31, 3) := by decide +kernel
theorem dX6_init_47 : decode cX6_init 47 = .ok (.iconst 0, 1) := by decide +kernel
theorem dX6_init_48 : decode cX6_init 48 = .ok (.istore_n 1, 1) := by decide +kernel
theorem dX6_init_49 : decode cX6_init 49 = .ok (.iload_n 1, 1) := by decide +kernel
theorem dX6_init_50 : decode cX6_init 50 = .ok (.bipush 8, 2) := by decide +kernel
theorem dX6_init_52 : decode cX6_init 52 = .ok (.if_icmp .ge 22, 3) := by decide +kernel
theorem dX6_init_55 : decode cX6_init 55 = .ok (.aload_n 0, 1) := by decide +kernel
theorem dX6_init_56 : decode cX6_init 56 = .ok (.getfield 31, 3) := by decide +kernel
theorem dX6_init_59 : decode cX6_init 59 = .ok (.iload_n 1, 1) := by decide +kernel
theorem dX6_init_60 : decode cX6_init 60 = .ok (.new 29, 3) := by decide +kernel
theorem dX6_init_63 : decode cX6_init 63 = .ok (.dup, 1) := by decide +kernel
theorem dX6_init_64 : decode cX6_init 64 = .ok (.invokespecial 35, 3) := by decide +kernel
theorem dX6_init_67 : decode cX6_init 67 = .ok (.aastore, 1) := by decide +kernel
theorem dX6_init_68 : decode cX6_init 68 = .ok (.iinc 1 1, 3) := by decide +kernel
theorem dX6_init_71 : decode cX6_init 71 = .ok (.goto (-22), 3) := by decide +kernel
theorem dX6_init_74 : decode cX6_init 74 = .ok (.aload_n 0, 1) := by decide +kernel
theorem dX6_init_75 : decode cX6_init 75 = .ok (.sipush 500, 3) := by decide +kernel
theorem dX6_init_78 : decode cX6_init 78 = .ok (.putfield 36, 3) := by decide +kernel
theorem dX6_init_81 : decode cX6_init 81 = .ok (.aload_n 0, 1) := by decide +kernel
theorem dX6_init_82 : decode cX6_init 82 = .ok (.iconst 2, 1) := by decide +kernel
theorem dX6_init_83 : decode cX6_init 83 = .ok (.putfield 39, 3) := by decide +kernel
theorem dX6_init_86 : decode cX6_init 86 = .ok (.aload_n 0, 1) := by decide +kernel
theorem dX6_init_87 : decode cX6_init 87 = .ok (.bipush 60, 2) := by decide +kernel
theorem dX6_init_89 : decode cX6_init 89 = .ok (.anewarray 42, 3) := by decide +kernel
theorem dX6_init_92 : decode cX6_init 92 = .ok (.putfield 44, 3) := by decide +kernel
theorem dX6_init_95 : decode cX6_init 95 = .ok (.iconst 0, 1) := by decide +kernel
theorem dX6_init_96 : decode cX6_init 96 = .ok (.istore_n 1, 1) := by decide +kernel
theorem dX6_init_97 : decode cX6_init 97 = .ok (.iload_n 1, 1) := by decide +kernel
theorem dX6_init_98 : decode cX6_init 98 = .ok (.bipush 60, 2) := by decide +kernel
theorem dX6_init_100 : decode cX6_init 100 = .ok (.if_icmp .ge 22, 3) := by decide +kernel
theorem dX6_init_103 : decode cX6_init 103 = .ok (.aload_n 0, 1) := by decide +kernel
theorem dX6_init_104 : decode cX6_init 104 = .ok (.getfield 44, 3) := by decide +kernel
theorem dX6_init_107 : decode cX6_init 107 = .ok (.iload_n 1, 1) := by decide +kernel
theorem dX6_init_108 : decode cX6_init 108 = .ok (.new 42, 3) := by decide +kernel
theorem dX6_init_111 : decode cX6_init 111 = .ok (.dup, 1) := by decide +kernel
theorem dX6_init_112 : decode cX6_init 112 = .ok (.invokespecial 48, 3) := by decide +kernel
theorem dX6_init_115 : decode cX6_init 115 = .ok (.aastore, 1) := by decide +kernel
theorem dX6_init_116 : decode cX6_init 116 = .ok (.iinc 1 1, 3) := by decide +kernel
theorem dX6_init_119 : decode cX6_init 119 = .ok (.goto (-22), 3) := by decide +kernel
theorem dX6_init_122 : decode cX6_init 122 = .ok (.aload_n 0, 1) := by decide +kernel
theorem dX6_init_123 : decode cX6_init 123 = .ok (.new 49, 3) := by decide +kernel
theorem dX6_init_126 : decode cX6_init 126 = .ok (.dup, 1) := by decide +kernel
theorem dX6_init_127 : decode cX6_init 127 = .ok (.invokespecial 51, 3) := by decide +kernel
theorem dX6_init_130 : decode cX6_init 130 = .ok (.putfield 52, 3) := by decide +kernel
theorem dX6_init_133 : decode cX6_init 133 = .ok (.aload_n 0, 1) := by decide +kernel
theorem dX6_init_134 : decode cX6_init 134 = .ok (.bipush 31, 2) := by decide +kernel
theorem dX6_init_136 : decode cX6_init 136 = .ok (.newarray .int, 2) := by decide +kernel
theorem dX6_init_138 : decode cX6_init 138 = .ok (.putfield 56, 3) := by decide +kernel
theorem dX6_init_141 : decode cX6_init 141 = .ok (.aload_n 0, 1) := by decide +kernel
theorem dX6_init_142 : decode cX6_init 142 = .ok (.new 59, 3) := by decide +kernel
theorem dX6_init_145 : decode cX6_init 145 = .ok (.dup, 1) := by decide +kernel
theorem dX6_init_146 : decode cX6_init 146 = .ok (.invokespecial 61, 3) := by decide +kernel
theorem dX6_init_149 : decode cX6_init 149 = .ok (.putfield 62, 3) := by decide +kernel
theorem dX6_init_152 : decode cX6_init 152 = .ok (.return_, 1) := by decide +kernel
set_option maxRecDepth 20000 in
theorem ggX6_feed_X5_append : GoodIn wsX6_feed wsX5_append := goodIn_r _ [7, 8, 9, 26, 27] (by decide +kernel) (by decide +kernel)
set_option maxRecDepth 20000 in
theorem gX6_feed_X5_append : GoodIn wsX6_feed (wsV RX6 71 RX5 yX5_append wsX5_append) := goodIn_app (goodIn_of _ (by decide +kernel)) ggX6_feed_X5_append
theorem dX6_feed_0 : decode cX6_feed 0 = .ok (.aload_n 0, 1) := by decide +kernel
theorem dX6_feed_1 : decode cX6_feed 1 = .ok (.getfield 20, 3) := by decide +kernel
theorem dX6_feed_4 : decode cX6_feed 4 = .ok (.getfield 66, 3) := by decide +kernel
theorem dX6_feed_7 : decode cX6_feed 7 = .ok (.bipush 20, 2) := by decide +kernel
theorem dX6_feed_9 : decode cX6_feed 9 = .ok (.iadd, 1) := by decide +kernel
theorem dX6_feed_10 : decode cX6_feed 10 = .ok (.sipush 400, 3) := by decide +kernel
theorem dX6_feed_13 : decode cX6_feed 13 = .ok (.if_icmp .le 5, 3) := by decide +kernel
theorem dX6_feed_16 : decode cX6_feed 16 = .ok (.iconst (-1), 1) := by decide +kernel
theorem dX6_feed_17 : decode cX6_feed 17 = .ok (.ireturn, 1) := by decide +kernel
theorem dX6_feed_18 : decode cX6_feed 18 = .ok (.aload_n 0, 1) := by decide +kernel
theorem dX6_feed_19 : decode cX6_feed 19 = .ok (.getfield 20, 3) := by decide +kernel
theorem dX6_feed_22 : decode cX6_feed 22 = .ok (.iload_n 1, 1) := by decide +kernel
theorem dX6_feed_23 : decode cX6_feed 23 = .ok (.invokevirtual 71, 3) := by decide +kernel
theorem dX6_feed_26 : decode cX6_feed 26 = .ok (.aload_n 0, 1) := by decide +kernel
theorem dX6_feed_27 : decode cX6_feed 27 = .ok (.getfield 20, 3) := by decide +kernel
theorem dX6_feed_30 : decode cX6_feed 30 = .ok (.iload_n 2, 1) := by decide +kernel
theorem dX6_feed_31 : decode cX6_feed 31 = .ok (.invokevirtual 71, 3) := by decide +kernel
theorem dX6_feed_34 : decode cX6_feed 34 = .ok (.aload_n 0, 1) := by decide +kernel
theorem dX6_feed_35 : decode cX6_feed 35 = .ok (.getfield 20, 3) := by decide +kernel
theorem dX6_feed_38 : decode cX6_feed 38 = .ok (.iload_n 3, 1) := by decide +kernel
theorem dX6_feed_39 : decode cX6_feed 39 = .ok (.invokevirtual 71, 3) := by decide +kernel
theorem dX6_feed_42 : decode cX6_feed 42 = .ok (.aload_n 0, 1) := by decide +kernel
theorem dX6_feed_43 : decode cX6_feed 43 = .ok (.getfield 20, 3) := by decide +kernel
theorem dX6_feed_46 : decode cX6_feed 46 = .ok (.iload 4, 2) := by decide +kernel
theorem dX6_feed_48 : decode cX6_feed 48 = .ok (.invokevirtual 71, 3) := by decide +kernel
theorem dX6_feed_51 : decode cX6_feed 51 = .ok (.aload_n 0, 1) := by decide +kernel
theorem dX6_feed_52 : decode cX6_feed 52 = .ok (.getfield 20, 3) := by decide +kernel
theorem dX6_feed_55 : decode cX6_feed 55 = .ok (.iload 5, 2) := by decide +kernel
theorem dX6_feed_57 : decode cX6_feed 57 = .ok (.invokevirtual 71, 3) := by decide +kernel
theorem dX6_feed_60 : decode cX6_feed 60 = .ok (.aload_n 0, 1) := by decide +kernel
theorem dX6_feed_61 : decode cX6_feed 61 = .ok (.getfield 20, 3) := by decide +kernel
theorem dX6_feed_64 : decode cX6_feed 64 = .ok (.getfield 66, 3) := by decide +kernel
theorem dX6_feed_67 : decode cX6_feed 67 = .ok (.ireturn, 1) := by decide +kernel
theorem dX6_end_0 : decode cX6_end 0 = .ok (.iload_n 1, 1) := by decide +kernel
theorem dX6_end_1 : decode cX6_end 1 = .ok (.ifCond .lt 14, 3) := by decide +kernel
theorem dX6_end_4 : decode cX6_end 4 = .ok (.iload_n 1, 1) := by decide +kernel
theorem dX6_end_5 : decode cX6_end 5 = .ok (.aload_n 0, 1) := by decide +kernel
theorem dX6_end_6 : decode cX6_end 6 = .ok (.getfield 20, 3) := by decide +kernel
theorem dX6_end_9 : decode cX6_end 9 = .ok (.getfield 66, 3) := by decide +kernel
theorem dX6_end_12 : decode cX6_end 12 = .ok (.if_icmp .le 5, 3) := by decide +kernel
theorem dX6_end_15 : decode cX6_end 15 = .ok (.iconst 0, 1) := by decide +kernel
theorem dX6_end_16 : decode cX6_end 16 = .ok (.ireturn, 1) := by decide +kernel
theorem dX6_end_17 : decode cX6_end 17 = .ok (.aload_n 0, 1) := by decide +kernel
theorem dX6_end_18 : decode cX6_end 18 = .ok (.getfield 20, 3) := by decide +kernel
theorem dX6_end_21 : decode cX6_end 21 = .ok (.iload_n 1, 1) := by decide +kernel
theorem dX6_end_22 : decode cX6_end 22 = .ok (.putfield 66, 3) := by decide +kernel
theorem dX6_end_25 : decode cX6_end 25 = .ok (.iconst 1, 1) := by decide +kernel
theorem dX6_end_26 : decode cX6_end 26 = .ok (.ireturn, 1) := by decide +kernel
set_option maxRecDepth 20000 in
theorem ggX6_ground_X6_isWithin : GoodIn wsX6_ground wsX6_isWithin := goodIn_r _ [8] (by decide +kernel) (by decide +kernel)
set_option maxRecDepth 20000 in
theorem gX6_ground_X6_isWithin : GoodIn wsX6_ground (va_wsS RX6 75 yX6_isWithin wsX6_isWithin) := goodIn_app (goodIn_of _ (by decide +kernel)) ggX6_ground_X6_isWithin
theorem dX6_ground_0 : decode cX6_ground 0 = .ok (.iload_n 1, 1) := by decide +kernel
theorem dX6_ground_1 : decode cX6_ground 1 = .ok (.iconst 0, 1) := by decide +kernel
theorem dX6_ground_2 : decode cX6_ground 2 = .ok (.sipush 2000, 3) := by decide +kernel
theorem dX6_ground_5 : decode cX6_ground 5 = .ok (.invokestatic 75, 3) := by decide +kernel
theorem dX6_ground_8 : decode cX6_ground 8 = .ok (.ifCond .eq 13, 3) := by decide +kernel
theorem dX6_ground_11 : decode cX6_ground 11 = .ok (.iload_n 2, 1) := by decide +kernel
theorem dX6_ground_12 : decode cX6_ground 12 = .ok (.iconst 0, 1) := by decide +kernel
theorem dX6_ground_13 : decode cX6_ground 13 = .ok (.bipush 20, 2) := by decide +kernel
theorem dX6_ground_15 : decode cX6_ground 15 = .ok (.invokestatic 75, 3) := by decide +kernel
theorem dX6_ground_18 : decode cX6_ground 18 = .ok (.ifCond .ne 13, 3) := by decide +kernel
theorem dX6_ground_21 : decode cX6_ground 21 = .ok (.new 79, 3) := by decide +kernel
theorem dX6_ground_24 : decode cX6_ground 24 = .ok (.dup, 1) := by decide +kernel
theorem dX6_ground_25 : decode cX6_ground 25 = .ok (.ldc 81, 2) := by decide +kernel
theorem dX6_ground_27 : decode cX6_ground 27 = .ok (.invokespecial 83, 3) := by decide +kernel
theorem dX6_ground_30 : decode cX6_ground 30 = .ok (.athrow, 1) := by decide +kernel
theorem dX6_ground_31 : decode cX6_ground 31 = .ok (.aload_n 0, 1) := by decide +kernel
theorem dX6_ground_32 : decode cX6_ground 32 = .ok (.iload_n 1, 1) := by decide +kernel
theorem dX6_ground_33 : decode cX6_ground 33 = .ok (.putfield 36, 3) := by decide +kernel
theorem dX6_ground_36 : decode cX6_ground 36 = .ok (.aload_n 0, 1) := by decide +kernel
theorem dX6_ground_37 : decode cX6_ground 37 = .ok (.iload_n 2, 1) := by decide +kernel
theorem dX6_ground_38 : decode cX6_ground 38 = .ok (.putfield 39, 3) := by decide +kernel
theorem dX6_ground_41 : decode cX6_ground 41 = .ok (.return_, 1) := by decide +kernel
theorem dX6_channel_0 : decode cX6_channel 0 = .ok (.aload_n 0, 1) := by decide +kernel
theorem dX6_channel_1 : decode cX6_channel 1 = .ok (.getfield 86, 3) := by decide +kernel
theorem dX6_channel_4 : decode cX6_channel 4 = .ok (.bipush 8, 2) := by decide +kernel
theorem dX6_channel_6 : decode cX6_channel 6 = .ok (.if_icmp .lt 13, 3) := by decide +kernel
theorem dX6_channel_9 : decode cX6_channel 9 = .ok (.new 89, 3) := by decide +kernel
theorem dX6_channel_12 : decode cX6_channel 12 = .ok (.dup, 1) := by decide +kernel
theorem dX6_channel_13 : decode cX6_channel 13 = .ok (.ldc 91, 2) := by decide +kernel
theorem dX6_channel_15 : decode cX6_channel 15 = .ok (.invokespecial 93, 3) := by decide +kernel
theorem dX6_channel_18 : decode cX6_channel 18 = .ok (.athrow, 1) := by decide +kernel
theorem dX6_channel_19 : decode cX6_channel 19 = .ok (.aload_n 0, 1) := by decide +kernel
theorem dX6_channel_20 : decode cX6_channel 20 = .ok (.dup, 1) := by decide +kernel
theorem dX6_channel_21 : decode cX6_channel 21 = .ok (.getfield 86, 3) := by decide +kernel
theorem dX6_channel_24 : decode cX6_channel 24 = .ok (.iconst 1, 1) := by decide +kernel
theorem dX6_channel_25 : decode cX6_channel 25 = .ok (.iadd, 1) := by decide +kernel
theorem dX6_channel_26 : decode cX6_channel 26 = .ok (.putfield 86, 3) := by decide +kernel
theorem dX6_channel_29 : decode cX6_channel 29 = .ok (.aload_n 0, 1) := by decide +kernel
theorem dX6_channel_30 : decode cX6_channel 30 = .ok (.getfield 86, 3) := by decide +kernel
theorem dX6_channel_33 : decode cX6_channel 33 = .ok (.iconst 1, 1) := by decide +kernel
theorem dX6_channel_34 : decode cX6_channel 34 = .ok (.isub, 1) := by decide +kernel
theorem dX6_channel_35 : decode cX6_channel 35 = .ok (.ireturn, 1) := by decide +kernel
set_option maxRecDepth 20000 in
theorem ggX6_well_X6_undugAt : GoodIn wsX6_well wsX6_undugAt := goodIn_ca (goodIn_ca (goodIn_r _ [10, 11, 12, 13, 14, 15, 9, 16, 17, 18, 19, 20, 21, 22, 23, 24, 25, 26, 50, 51, 52, 53, 54, 55, 56, 57, 58, 59, 60, 61, 62, 63, 64, 65, 42, 43, 44, 45, 46, 47, 48, 49] (by decide +kernel) (by decide +kernel)) (goodIn_sub (fun _ h => List.mem_cons_of_mem _ (List.mem_append_left _ (List.mem_append_right _ h))) (by decide +kernel))) (goodIn_sub (fun _ h => List.mem_cons_of_mem _ (List.mem_append_right _ h)) (by decide +kernel))
set_option maxRecDepth 20000 in
theorem gX6_well_X6_undugAt : GoodIn wsX6_well (wsV RX6 94 RX6 yX6_undugAt wsX6_undugAt) := goodIn_app (goodIn_of _ (by decide +kernel)) ggX6_well_X6_undugAt
set_option maxRecDepth 20000 in
theorem ggX6_well_X6_isWithin : GoodIn wsX6_well wsX6_isWithin := goodIn_r _ [29] (by decide +kernel) (by decide +kernel)
set_option maxRecDepth 20000 in
theorem gX6_well_X6_isWithin : GoodIn wsX6_well (va_wsS RX6 75 yX6_isWithin wsX6_isWithin) := goodIn_app (goodIn_of _ (by decide +kernel)) ggX6_well_X6_isWithin
set_option maxRecDepth 20000 in
theorem ggX6_well_X0_lastFloor : GoodIn wsX6_well wsX0_lastFloor := goodIn_r _ [33, 34, 35, 42, 43, 44, 45, 46, 47, 48, 49] (by decide +kernel) (by decide +kernel)
set_option maxRecDepth 20000 in
theorem gX6_well_X0_lastFloor : GoodIn wsX6_well (wsV RX6 98 RX0 yX0_lastFloor wsX0_lastFloor) := goodIn_app (goodIn_of _ (by decide +kernel)) ggX6_well_X0_lastFloor
set_option maxRecDepth 20000 in
theorem ggX6_well_X0_addWell : GoodIn wsX6_well wsX0_addWell := goodIn_r _ [39, 34, 40, 41, 35, 42, 43, 44, 45, 46, 47, 48, 49] (by decide +kernel) (by decide +kernel)
set_option maxRecDepth 20000 in
theorem gX6_well_X0_addWell : GoodIn wsX6_well (wsV RX6 109 RX0 yX0_addWell wsX0_addWell) := goodIn_app (goodIn_of _ (by decide +kernel)) ggX6_well_X0_addWell
theorem dX6_well_0 : decode cX6_well 0 = .ok (.aload_n 0, 1) := by decide +kernel
theorem dX6_well_1 : decode cX6_well 1 = .ok (.iload_n 1, 1) := by decide +kernel
theorem dX6_well_2 : decode cX6_well 2 = .ok (.invokevirtual 94, 3) := by decide +kernel
theorem dX6_well_5 : decode cX6_well 5 = .ok (.astore 5, 2) := by decide +kernel
theorem dX6_well_7 : decode cX6_well 7 = .ok (.iload_n 2, 1) := by decide +kernel
theorem dX6_well_8 : decode cX6_well 8 = .ok (.iconst 0, 1) := by decide +kernel
theorem dX6_well_9 : decode cX6_well 9 = .ok (.bipush 100, 2) := by decide +kernel
theorem dX6_well_11 : decode cX6_well 11 = .ok (.invokestatic 75, 3) := by decide +kernel
theorem dX6_well_14 : decode cX6_well 14 = .ok (.ifCond .eq 29, 3) := by decide +kernel
theorem dX6_well_17 : decode cX6_well 17 = .ok (.iload_n 3, 1) := by decide +kernel
theorem dX6_well_18 : decode cX6_well 18 = .ok (.iconst 0, 1) := by decide +kernel
theorem dX6_well_19 : decode cX6_well 19 = .ok (.bipush 100, 2) := by decide +kernel
theorem dX6_well_21 : decode cX6_well 21 = .ok (.invokestatic 75, 3) := by decide +kernel
theorem dX6_well_24 : decode cX6_well 24 = .ok (.ifCond .eq 19, 3) := by decide +kernel
theorem dX6_well_27 : decode cX6_well 27 = .ok (.iload 4, 2) := by decide +kernel
theorem dX6_well_29 : decode cX6_well 29 = .ok (.aload 5, 2) := by decide +kernel
theorem dX6_well_31 : decode cX6_well 31 = .ok (.invokevirtual 98, 3) := by decide +kernel
theorem dX6_well_34 : decode cX6_well 34 = .ok (.sipush 1000, 3) := by decide +kernel
theorem dX6_well_37 : decode cX6_well 37 = .ok (.invokestatic 75, 3) := by decide +kernel
theorem dX6_well_40 : decode cX6_well 40 = .ok (.ifCond .ne 13, 3) := by decide +kernel
theorem dX6_well_43 : decode cX6_well 43 = .ok (.new 79, 3) := by decide +kernel
theorem dX6_well_46 : decode cX6_well 46 = .ok (.dup, 1) := by decide +kernel
theorem dX6_well_47 : decode cX6_well 47 = .ok (.ldc 102, 2) := by decide +kernel
theorem dX6_well_49 : decode cX6_well 49 = .ok (.invokespecial 83, 3) := by decide +kernel
theorem dX6_well_52 : decode cX6_well 52 = .ok (.athrow, 1) := by decide +kernel
theorem dX6_well_53 : decode cX6_well 53 = .ok (.aload 5, 2) := by decide +kernel
theorem dX6_well_55 : decode cX6_well 55 = .ok (.getfield 104, 3) := by decide +kernel
theorem dX6_well_58 : decode cX6_well 58 = .ok (.bipush 20, 2) := by decide +kernel
theorem dX6_well_60 : decode cX6_well 60 = .ok (.if_icmp .lt 13, 3) := by decide +kernel
theorem dX6_well_63 : decode cX6_well 63 = .ok (.new 89, 3) := by decide +kernel
theorem dX6_well_66 : decode cX6_well 66 = .ok (.dup, 1) := by decide +kernel
theorem dX6_well_67 : decode cX6_well 67 = .ok (.ldc 107, 2) := by decide +kernel
theorem dX6_well_69 : decode cX6_well 69 = .ok (.invokespecial 93, 3) := by decide +kernel
theorem dX6_well_72 : decode cX6_well 72 = .ok (.athrow, 1) := by decide +kernel
theorem dX6_well_73 : decode cX6_well 73 = .ok (.aload 5, 2) := by decide +kernel
theorem dX6_well_75 : decode cX6_well 75 = .ok (.iload_n 2, 1) := by decide +kernel
theorem dX6_well_76 : decode cX6_well 76 = .ok (.iload_n 3, 1) := by decide +kernel
theorem dX6_well_77 : decode cX6_well 77 = .ok (.iload 4, 2) := by decide +kernel
theorem dX6_well_79 : decode cX6_well 79 = .ok (.invokevirtual 109, 3) := by decide +kernel
theorem dX6_well_82 : decode cX6_well 82 = .ok (.aload 5, 2) := by decide +kernel
theorem dX6_well_84 : decode cX6_well 84 = .ok (.getfield 104, 3) := by decide +kernel
theorem dX6_well_87 : decode cX6_well 87 = .ok (.iconst 1, 1) := by decide +kernel
theorem dX6_well_88 : decode cX6_well 88 = .ok (.isub, 1) := by decide +kernel
theorem dX6_well_89 : decode cX6_well 89 = .ok (.ireturn, 1) := by decide +kernel
set_option maxRecDepth 20000 in
theorem ggX6_may_X6_undugAt : GoodIn wsX6_may wsX6_undugAt := goodIn_ca (goodIn_ca (goodIn_r _ [5, 6, 7, 8, 9, 10, 4, 11, 12, 13, 14, 15, 16, 17, 18, 19, 20, 21, 45, 46, 47, 48, 49, 50, 51, 52, 53, 54, 55, 56, 57, 58, 59, 60, 61, 62, 63, 64, 65, 66, 67, 68] (by decide +kernel) (by decide +kernel)) (goodIn_sub (fun _ h => List.mem_cons_of_mem _ (List.mem_append_left _ (List.mem_append_right _ h))) (by decide +kernel))) (goodIn_sub (fun _ h => List.mem_cons_of_mem _ (List.mem_append_right _ h)) (by decide +kernel))
set_option maxRecDepth 20000 in
theorem gX6_may_X6_undugAt : GoodIn wsX6_may (wsV RX6 94 RX6 yX6_undugAt wsX6_undugAt) := goodIn_app (goodIn_of _ (by decide +kernel)) ggX6_may_X6_undugAt
set_option maxRecDepth 20000 in
theorem ggX6_may_X6_isAllowed : GoodIn wsX6_may wsX6_isAllowed := goodIn_r _ [25, 26, 14, 15, 16, 17, 18, 19, 20, 21, 27, 28, 29, 4, 30, 31, 32, 33, 34, 35, 36, 37, 38, 39, 40, 41, 42, 43, 44, 61, 62, 63, 64, 65, 66, 67, 68, 45, 46, 47, 48, 49, 50, 51, 52, 53, 54, 55, 56, 57, 58, 59, 60] (by decide +kernel) (by decide +kernel)
set_option maxRecDepth 20000 in
theorem gX6_may_X6_isAllowed : GoodIn wsX6_may (wsV RX6 113 RX6 yX6_isAllowed wsX6_isAllowed) := goodIn_app (goodIn_of _ (by decide +kernel)) ggX6_may_X6_isAllowed
theorem dX6_may_0 : decode cX6_may 0 = .ok (.aload_n 0, 1) := by decide +kernel
theorem dX6_may_1 : decode cX6_may 1 = .ok (.aload_n 0, 1) := by decide +kernel
theorem dX6_may_2 : decode cX6_may 2 = .ok (.iload_n 1, 1) := by decide +kernel
theorem dX6_may_3 : decode cX6_may 3 = .ok (.invokevirtual 94, 3) := by decide +kernel
theorem dX6_may_6 : decode cX6_may 6 = .ok (.invokevirtual 113, 3) := by decide +kernel
theorem dX6_may_9 : decode cX6_may 9 = .ok (.ireturn, 1) := by decide +kernel
set_option maxRecDepth 20000 in
theorem ggX6_dig_X6_undugAt : GoodIn wsX6_dig wsX6_undugAt := goodIn_ca (goodIn_ca (goodIn_r _ [13, 14, 15, 16, 17, 18, 12, 19, 20, 21, 22, 23, 24, 25, 26, 27, 28, 29, 76, 77, 78, 79, 80, 81, 82, 83, 84, 85, 86, 87, 88, 89, 90, 91, 92, 93, 94, 95, 96, 97, 98, 99] (by decide +kernel) (by decide +kernel)) (goodIn_sub (fun _ h => List.mem_cons_of_mem _ (List.mem_append_left _ (List.mem_append_right _ h))) (by decide +kernel))) (goodIn_sub (fun _ h => List.mem_cons_of_mem _ (List.mem_append_right _ h)) (by decide +kernel))
set_option maxRecDepth 20000 in
theorem gX6_dig_X6_undugAt : GoodIn wsX6_dig (wsV RX6 94 RX6 yX6_undugAt wsX6_undugAt) := goodIn_app (goodIn_of _ (by decide +kernel)) ggX6_dig_X6_undugAt
set_option maxRecDepth 20000 in
theorem ggX6_dig_X6_isOwner : GoodIn wsX6_dig wsX6_isOwner := goodIn_r _ [32, 33, 34, 12, 35] (by decide +kernel) (by decide +kernel)
set_option maxRecDepth 20000 in
theorem gX6_dig_X6_isOwner : GoodIn wsX6_dig (va_wsS RX6 117 yX6_isOwner wsX6_isOwner) := goodIn_app (goodIn_of _ (by decide +kernel)) ggX6_dig_X6_isOwner
set_option maxRecDepth 20000 in
theorem ggX6_dig_X6_isWithin : GoodIn wsX6_dig wsX6_isWithin := goodIn_r _ [35] (by decide +kernel) (by decide +kernel)
set_option maxRecDepth 20000 in
theorem gX6_dig_X6_isWithin : GoodIn wsX6_dig (va_wsS RX6 75 yX6_isWithin wsX6_isWithin) := goodIn_app (goodIn_of _ (by decide +kernel)) ggX6_dig_X6_isWithin
set_option maxRecDepth 20000 in
theorem ggX6_dig_X6_isAllowed : GoodIn wsX6_dig wsX6_isAllowed := goodIn_r _ [39, 40, 22, 23, 24, 25, 26, 27, 28, 29, 41, 42, 43, 12, 44, 45, 46, 47, 48, 49, 50, 51, 52, 53, 54, 55, 56, 57, 58, 92, 93, 94, 95, 96, 97, 98, 99, 76, 77, 78, 79, 80, 81, 82, 83, 84, 85, 86, 87, 88, 89, 90, 91] (by decide +kernel) (by decide +kernel)
set_option maxRecDepth 20000 in
theorem gX6_dig_X6_isAllowed : GoodIn wsX6_dig (wsV RX6 113 RX6 yX6_isAllowed wsX6_isAllowed) := goodIn_app (goodIn_of _ (by decide +kernel)) ggX6_dig_X6_isAllowed
set_option maxRecDepth 20000 in
theorem ggX6_dig_X6_addShare : GoodIn wsX6_dig wsX6_addShare := goodIn_r _ [62, 3, 63, 64, 65, 66, 67, 68, 69, 70, 71, 72, 73, 74, 75, 76, 77, 78, 79, 80, 81, 82, 83, 84, 85, 86, 87, 88, 89, 90, 91, 100, 101, 102, 103, 104, 105, 106] (by decide +kernel) (by decide +kernel)
set_option maxRecDepth 20000 in
theorem gX6_dig_X6_addShare : GoodIn wsX6_dig (wsV RX6 141 RX6 yX6_addShare wsX6_addShare) := goodIn_app (goodIn_of _ (by decide +kernel)) ggX6_dig_X6_addShare
theorem dX6_dig_0 : decode cX6_dig 0 = .ok (.aload_n 0, 1) := by decide +kernel
theorem dX6_dig_1 : decode cX6_dig 1 = .ok (.iload_n 1, 1) := by decide +kernel
theorem dX6_dig_2 : decode cX6_dig 2 = .ok (.invokevirtual 94, 3) := by decide +kernel
theorem dX6_dig_5 : decode cX6_dig 5 = .ok (.astore 4, 2) := by decide +kernel
theorem dX6_dig_7 : decode cX6_dig 7 = .ok (.iload_n 2, 1) := by decide +kernel
theorem dX6_dig_8 : decode cX6_dig 8 = .ok (.invokestatic 117, 3) := by decide +kernel
theorem dX6_dig_11 : decode cX6_dig 11 = .ok (.ifCond .eq 13, 3) := by decide +kernel
theorem dX6_dig_14 : decode cX6_dig 14 = .ok (.iload_n 3, 1) := by decide +kernel
theorem dX6_dig_15 : decode cX6_dig 15 = .ok (.iconst 1, 1) := by decide +kernel
theorem dX6_dig_16 : decode cX6_dig 16 = .ok (.bipush 15, 2) := by decide +kernel
theorem dX6_dig_18 : decode cX6_dig 18 = .ok (.invokestatic 75, 3) := by decide +kernel
theorem dX6_dig_21 : decode cX6_dig 21 = .ok (.ifCond .ne 13, 3) := by decide +kernel
theorem dX6_dig_24 : decode cX6_dig 24 = .ok (.new 79, 3) := by decide +kernel
theorem dX6_dig_27 : decode cX6_dig 27 = .ok (.dup, 1) := by decide +kernel
theorem dX6_dig_28 : decode cX6_dig 28 = .ok (.ldc 121, 2) := by decide +kernel
theorem dX6_dig_30 : decode cX6_dig 30 = .ok (.invokespecial 83, 3) := by decide +kernel
theorem dX6_dig_33 : decode cX6_dig 33 = .ok (.athrow, 1) := by decide +kernel
theorem dX6_dig_34 : decode cX6_dig 34 = .ok (.aload_n 0, 1) := by decide +kernel
theorem dX6_dig_35 : decode cX6_dig 35 = .ok (.getfield 123, 3) := by decide +kernel
theorem dX6_dig_38 : decode cX6_dig 38 = .ok (.bipush 60, 2) := by decide +kernel
theorem dX6_dig_40 : decode cX6_dig 40 = .ok (.if_icmp .ge 12, 3) := by decide +kernel
theorem dX6_dig_43 : decode cX6_dig 43 = .ok (.aload_n 0, 1) := by decide +kernel
theorem dX6_dig_44 : decode cX6_dig 44 = .ok (.aload 4, 2) := by decide +kernel
theorem dX6_dig_46 : decode cX6_dig 46 = .ok (.invokevirtual 113, 3) := by decide +kernel
theorem dX6_dig_49 : decode cX6_dig 49 = .ok (.ifCond .ne 5, 3) := by decide +kernel
theorem dX6_dig_52 : decode cX6_dig 52 = .ok (.iconst (-1), 1) := by decide +kernel
theorem dX6_dig_53 : decode cX6_dig 53 = .ok (.ireturn, 1) := by decide +kernel
theorem dX6_dig_54 : decode cX6_dig 54 = .ok (.aload 4, 2) := by decide +kernel
theorem dX6_dig_56 : decode cX6_dig 56 = .ok (.iload_n 3, 1) := by decide +kernel
theorem dX6_dig_57 : decode cX6_dig 57 = .ok (.sipush 1440, 3) := by decide +kernel
theorem dX6_dig_60 : decode cX6_dig 60 = .ok (.imul, 1) := by decide +kernel
theorem dX6_dig_61 : decode cX6_dig 61 = .ok (.putfield 126, 3) := by decide +kernel
theorem dX6_dig_64 : decode cX6_dig 64 = .ok (.aload 4, 2) := by decide +kernel
theorem dX6_dig_66 : decode cX6_dig 66 = .ok (.aload_n 0, 1) := by decide +kernel
theorem dX6_dig_67 : decode cX6_dig 67 = .ok (.getfield 129, 3) := by decide +kernel
theorem dX6_dig_70 : decode cX6_dig 70 = .ok (.putfield 132, 3) := by decide +kernel
theorem dX6_dig_73 : decode cX6_dig 73 = .ok (.aload 4, 2) := by decide +kernel
theorem dX6_dig_75 : decode cX6_dig 75 = .ok (.aload_n 0, 1) := by decide +kernel
theorem dX6_dig_76 : decode cX6_dig 76 = .ok (.getfield 135, 3) := by decide +kernel
theorem dX6_dig_79 : decode cX6_dig 79 = .ok (.putfield 138, 3) := by decide +kernel
theorem dX6_dig_82 : decode cX6_dig 82 = .ok (.aload_n 0, 1) := by decide +kernel
theorem dX6_dig_83 : decode cX6_dig 83 = .ok (.dup, 1) := by decide +kernel
theorem dX6_dig_84 : decode cX6_dig 84 = .ok (.getfield 135, 3) := by decide +kernel
theorem dX6_dig_87 : decode cX6_dig 87 = .ok (.iconst 1, 1) := by decide +kernel
theorem dX6_dig_88 : decode cX6_dig 88 = .ok (.iadd, 1) := by decide +kernel
theorem dX6_dig_89 : decode cX6_dig 89 = .ok (.putfield 135, 3) := by decide +kernel
theorem dX6_dig_92 : decode cX6_dig 92 = .ok (.aload_n 0, 1) := by decide +kernel
theorem dX6_dig_93 : decode cX6_dig 93 = .ok (.iload_n 1, 1) := by decide +kernel
theorem dX6_dig_94 : decode cX6_dig 94 = .ok (.iconst 0, 1) := by decide +kernel
theorem dX6_dig_95 : decode cX6_dig 95 = .ok (.aload 4, 2) := by decide +kernel
theorem dX6_dig_97 : decode cX6_dig 97 = .ok (.getfield 126, 3) := by decide +kernel
theorem dX6_dig_100 : decode cX6_dig 100 = .ok (.iload_n 2, 1) := by decide +kernel
theorem dX6_dig_101 : decode cX6_dig 101 = .ok (.invokevirtual 141, 3) := by decide +kernel
theorem dX6_dig_104 : decode cX6_dig 104 = .ok (.aload_n 0, 1) := by decide +kernel
theorem dX6_dig_105 : decode cX6_dig 105 = .ok (.getfield 123, 3) := by decide +kernel
theorem dX6_dig_108 : decode cX6_dig 108 = .ok (.iconst 1, 1) := by decide +kernel
theorem dX6_dig_109 : decode cX6_dig 109 = .ok (.isub, 1) := by decide +kernel
theorem dX6_dig_110 : decode cX6_dig 110 = .ok (.ireturn, 1) := by decide +kernel
set_option maxRecDepth 20000 in
theorem ggX6_years_X6_isWithin : GoodIn wsX6_years wsX6_isWithin := goodIn_r _ [7] (by decide +kernel) (by decide +kernel)
set_option maxRecDepth 20000 in
theorem gX6_years_X6_isWithin : GoodIn wsX6_years (va_wsS RX6 75 yX6_isWithin wsX6_isWithin) := goodIn_app (goodIn_of _ (by decide +kernel)) ggX6_years_X6_isWithin
theorem dX6_years_0 : decode cX6_years 0 = .ok (.iload_n 1, 1) := by decide +kernel
theorem dX6_years_1 : decode cX6_years 1 = .ok (.iconst 0, 1) := by decide +kernel
theorem dX6_years_2 : decode cX6_years 2 = .ok (.bipush 100, 2) := by decide +kernel
theorem dX6_years_4 : decode cX6_years 4 = .ok (.invokestatic 75, 3) := by decide +kernel
theorem dX6_years_7 : decode cX6_years 7 = .ok (.ifCond .ne 13, 3) := by decide +kernel
theorem dX6_years_10 : decode cX6_years 10 = .ok (.new 79, 3) := by decide +kernel
theorem dX6_years_13 : decode cX6_years 13 = .ok (.dup, 1) := by decide +kernel
theorem dX6_years_14 : decode cX6_years 14 = .ok (.ldc 145, 2) := by decide +kernel
theorem dX6_years_16 : decode cX6_years 16 = .ok (.invokespecial 83, 3) := by decide +kernel
theorem dX6_years_19 : decode cX6_years 19 = .ok (.athrow, 1) := by decide +kernel
theorem dX6_years_20 : decode cX6_years 20 = .ok (.aload_n 0, 1) := by decide +kernel
theorem dX6_years_21 : decode cX6_years 21 = .ok (.dup, 1) := by decide +kernel
theorem dX6_years_22 : decode cX6_years 22 = .ok (.getfield 129, 3) := by decide +kernel
theorem dX6_years_25 : decode cX6_years 25 = .ok (.iload_n 1, 1) := by decide +kernel
theorem dX6_years_26 : decode cX6_years 26 = .ok (.iadd, 1) := by decide +kernel
theorem dX6_years_27 : decode cX6_years 27 = .ok (.putfield 129, 3) := by decide +kernel
theorem dX6_years_30 : decode cX6_years 30 = .ok (.aload_n 0, 1) := by decide +kernel
theorem dX6_years_31 : decode cX6_years 31 = .ok (.getfield 129, 3) := by decide +kernel
theorem dX6_years_34 : decode cX6_years 34 = .ok (.ireturn, 1) := by decide +kernel
set_option maxRecDepth 20000 in
theorem ggX6_collapse_X6_dugWithWell : GoodIn wsX6_collapse wsX6_dugWithWell := goodIn_ca (goodIn_ca (goodIn_r _ [6, 7, 8, 9, 10, 11, 12, 13, 14, 5, 15, 16, 17, 18, 19, 20, 21, 22, 23, 24, 25, 26, 27, 28, 29, 30, 31, 32, 33, 34, 35, 36, 37, 38, 39, 40, 41, 42, 43, 44, 45, 46, 47] (by decide +kernel) (by decide +kernel)) (goodIn_sub (fun _ h => List.mem_cons_of_mem _ (List.mem_append_left _ (List.mem_append_right _ h))) (by decide +kernel))) (goodIn_sub (fun _ h => List.mem_cons_of_mem _ (List.mem_append_right _ h)) (by decide +kernel))
set_option maxRecDepth 20000 in
theorem gX6_collapse_X6_dugWithWell : GoodIn wsX6_collapse (wsV RX6 147 RX6 yX6_dugWithWell wsX6_dugWithWell) := goodIn_app (goodIn_of _ (by decide +kernel)) ggX6_collapse_X6_dugWithWell
theorem dX6_collapse_0 : decode cX6_collapse 0 = .ok (.aload_n 0, 1) := by decide +kernel
theorem dX6_collapse_1 : decode cX6_collapse 1 = .ok (.iload_n 1, 1) := by decide +kernel
theorem dX6_collapse_2 : decode cX6_collapse 2 = .ok (.iload_n 2, 1) := by decide +kernel
theorem dX6_collapse_3 : decode cX6_collapse 3 = .ok (.invokevirtual 147, 3) := by decide +kernel
theorem dX6_collapse_6 : decode cX6_collapse 6 = .ok (.astore 4, 2) := by decide +kernel
theorem dX6_collapse_8 : decode cX6_collapse 8 = .ok (.aload 4, 2) := by decide +kernel
theorem dX6_collapse_10 : decode cX6_collapse 10 = .ok (.getfield 151, 3) := by decide +kernel
theorem dX6_collapse_13 : decode cX6_collapse 13 = .ok (.iload_n 2, 1) := by decide +kernel
theorem dX6_collapse_14 : decode cX6_collapse 14 = .ok (.baload, 1) := by decide +kernel
theorem dX6_collapse_15 : decode cX6_collapse 15 = .ok (.istore 5, 2) := by decide +kernel
theorem dX6_collapse_17 : decode cX6_collapse 17 = .ok (.aload 4, 2) := by decide +kernel
theorem dX6_collapse_19 : decode cX6_collapse 19 = .ok (.getfield 151, 3) := by decide +kernel
theorem dX6_collapse_22 : decode cX6_collapse 22 = .ok (.iload_n 2, 1) := by decide +kernel
theorem dX6_collapse_23 : decode cX6_collapse 23 = .ok (.iload_n 3, 1) := by decide +kernel
theorem dX6_collapse_24 : decode cX6_collapse 24 = .ok (.bastore, 1) := by decide +kernel
theorem dX6_collapse_25 : decode cX6_collapse 25 = .ok (.iload 5, 2) := by decide +kernel
theorem dX6_collapse_27 : decode cX6_collapse 27 = .ok (.iload_n 3, 1) := by decide +kernel
theorem dX6_collapse_28 : decode cX6_collapse 28 = .ok (.if_icmp .eq 7, 3) := by decide +kernel
theorem dX6_collapse_31 : decode cX6_collapse 31 = .ok (.iconst 1, 1) := by decide +kernel
theorem dX6_collapse_32 : decode cX6_collapse 32 = .ok (.goto 4, 3) := by decide +kernel
theorem dX6_collapse_35 : decode cX6_collapse 35 = .ok (.iconst 0, 1) := by decide +kernel
theorem dX6_collapse_36 : decode cX6_collapse 36 = .ok (.ireturn, 1) := by decide +kernel
set_option maxRecDepth 20000 in
theorem ggX6_flow_X6_dugAt : GoodIn wsX6_flow wsX6_dugAt := goodIn_ca (goodIn_ca (goodIn_r _ [6, 7, 8, 9, 10, 11, 5, 12, 13, 14, 15, 16, 17, 18, 19, 20, 21, 22, 67, 68, 69, 70, 71, 72, 73, 74, 75, 76, 77, 78, 79, 80, 81, 82, 83, 84, 85, 86, 87, 88, 89, 90] (by decide +kernel) (by decide +kernel)) (goodIn_sub (fun _ h => List.mem_cons_of_mem _ (List.mem_append_left _ (List.mem_append_right _ h))) (by decide +kernel))) (goodIn_sub (fun _ h => List.mem_cons_of_mem _ (List.mem_append_right _ h)) (by decide +kernel))
set_option maxRecDepth 20000 in
theorem gX6_flow_X6_dugAt : GoodIn wsX6_flow (wsV RX6 155 RX6 yX6_dugAt wsX6_dugAt) := goodIn_app (goodIn_of _ (by decide +kernel)) ggX6_flow_X6_dugAt
set_option maxRecDepth 20000 in
theorem ggX6_flow_X6_flowOf : GoodIn wsX6_flow wsX6_flowOf := goodIn_r _ [26, 27, 28, 29, 20, 30, 31, 32, 33, 34, 35, 5, 36, 37, 38, 39, 15, 16, 40, 41, 42, 43, 44, 45, 46, 47, 48, 49, 17, 18, 19, 21, 22, 50, 51, 52, 53, 54, 55, 56, 57, 58, 59, 60, 61, 62, 63, 64, 65, 66, 83, 84, 85, 86, 87, 88, 89, 90, 67, 68, 69, 70, 71, 72, 73, 74, 75, 76, 77, 78, 79, 80, 81, 82] (by decide +kernel) (by decide +kernel)
set_option maxRecDepth 20000 in
theorem gX6_flow_X6_flowOf : GoodIn wsX6_flow (wsV RX6 158 RX6 yX6_flowOf wsX6_flowOf) := goodIn_app (goodIn_of _ (by decide +kernel)) ggX6_flow_X6_flowOf
theorem dX6_flow_0 : decode cX6_flow 0 = .ok (.aload_n 0, 1) := by decide +kernel
theorem dX6_flow_1 : decode cX6_flow 1 = .ok (.aload_n 0, 1) := by decide +kernel
theorem dX6_flow_2 : decode cX6_flow 2 = .ok (.iload_n 1, 1) := by decide +kernel
theorem dX6_flow_3 : decode cX6_flow 3 = .ok (.invokevirtual 155, 3) := by decide +kernel
theorem dX6_flow_6 : decode cX6_flow 6 = .ok (.aload_n 0, 1) := by decide +kernel
theorem dX6_flow_7 : decode cX6_flow 7 = .ok (.getfield 135, 3) := by decide +kernel
theorem dX6_flow_10 : decode cX6_flow 10 = .ok (.invokevirtual 158, 3) := by decide +kernel
theorem dX6_flow_13 : decode cX6_flow 13 = .ok (.ireturn, 1) := by decide +kernel
set_option maxRecDepth 20000 in
theorem ggX6_harm_X6_dugAt : GoodIn wsX6_harm wsX6_dugAt := goodIn_ca (goodIn_ca (goodIn_r _ [7, 8, 9, 10, 11, 12, 6, 13, 14, 15, 16, 17, 18, 19, 20, 21, 22, 23, 75, 76, 77, 78, 79, 80, 81, 82, 83, 84, 85, 86, 87, 88, 89, 90, 67, 68, 69, 70, 71, 72, 73, 74] (by decide +kernel) (by decide +kernel)) (goodIn_sub (fun _ h => List.mem_cons_of_mem _ (List.mem_append_left _ (List.mem_append_right _ h))) (by decide +kernel))) (goodIn_sub (fun _ h => List.mem_cons_of_mem _ (List.mem_append_right _ h)) (by decide +kernel))
set_option maxRecDepth 20000 in
theorem gX6_harm_X6_dugAt : GoodIn wsX6_harm (wsV RX6 155 RX6 yX6_dugAt wsX6_dugAt) := goodIn_app (goodIn_of _ (by decide +kernel)) ggX6_harm_X6_dugAt
set_option maxRecDepth 20000 in
theorem ggX6_harm_X6_flowOf : GoodIn wsX6_harm wsX6_flowOf := goodIn_r _ [27, 28, 29, 30, 21, 31, 32, 33, 34, 35, 36, 6, 37, 38, 39, 40, 16, 17, 1, 41, 42, 43, 44, 45, 46, 47, 48, 49, 18, 19, 20, 22, 23, 50, 51, 52, 53, 54, 55, 56, 57, 58, 59, 60, 61, 62, 63, 64, 65, 66, 67, 68, 69, 70, 71, 72, 73, 74, 75, 76, 77, 78, 79, 80, 81, 82, 83, 84, 85, 86, 87, 88, 89, 90] (by decide +kernel) (by decide +kernel)
set_option maxRecDepth 20000 in
theorem gX6_harm_X6_flowOf : GoodIn wsX6_harm (wsV RX6 158 RX6 yX6_flowOf wsX6_flowOf) := goodIn_app (goodIn_of _ (by decide +kernel)) ggX6_harm_X6_flowOf
theorem dX6_harm_0 : decode cX6_harm 0 = .ok (.aload_n 0, 1) := by decide +kernel
theorem dX6_harm_1 : decode cX6_harm 1 = .ok (.iload_n 1, 1) := by decide +kernel
theorem dX6_harm_2 : decode cX6_harm 2 = .ok (.invokevirtual 155, 3) := by decide +kernel
theorem dX6_harm_5 : decode cX6_harm 5 = .ok (.astore_n 2, 1) := by decide +kernel
theorem dX6_harm_6 : decode cX6_harm 6 = .ok (.aload_n 0, 1) := by decide +kernel
theorem dX6_harm_7 : decode cX6_harm 7 = .ok (.aload_n 2, 1) := by decide +kernel
theorem dX6_harm_8 : decode cX6_harm 8 = .ok (.aload_n 2, 1) := by decide +kernel
theorem dX6_harm_9 : decode cX6_harm 9 = .ok (.getfield 138, 3) := by decide +kernel
theorem dX6_harm_12 : decode cX6_harm 12 = .ok (.invokevirtual 158, 3) := by decide +kernel
theorem dX6_harm_15 : decode cX6_harm 15 = .ok (.aload_n 0, 1) := by decide +kernel
theorem dX6_harm_16 : decode cX6_harm 16 = .ok (.aload_n 2, 1) := by decide +kernel
theorem dX6_harm_17 : decode cX6_harm 17 = .ok (.aload_n 0, 1) := by decide +kernel
theorem dX6_harm_18 : decode cX6_harm 18 = .ok (.getfield 135, 3) := by decide +kernel
theorem dX6_harm_21 : decode cX6_harm 21 = .ok (.invokevirtual 158, 3) := by decide +kernel
theorem dX6_harm_24 : decode cX6_harm 24 = .ok (.isub, 1) := by decide +kernel
theorem dX6_harm_25 : decode cX6_harm 25 = .ok (.ireturn, 1) := by decide +kernel
set_option maxRecDepth 20000 in
theorem ggX6_seep_X6_dugWithWell : GoodIn wsX6_seep wsX6_dugWithWell := goodIn_ca (goodIn_ca (goodIn_r _ [6, 7, 8, 9, 10, 11, 12, 13, 14, 5, 15, 16, 17, 18, 19, 20, 21, 22, 23, 75, 76, 77, 78, 79, 80, 81, 82, 59, 60, 61, 62, 63, 64, 65, 66, 67, 68, 69, 70, 71, 72, 73, 74] (by decide +kernel) (by decide +kernel)) (goodIn_sub (fun _ h => List.mem_cons_of_mem _ (List.mem_append_left _ (List.mem_append_right _ h))) (by decide +kernel))) (goodIn_sub (fun _ h => List.mem_cons_of_mem _ (List.mem_append_right _ h)) (by decide +kernel))
set_option maxRecDepth 20000 in
theorem gX6_seep_X6_dugWithWell : GoodIn wsX6_seep (wsV RX6 147 RX6 yX6_dugWithWell wsX6_dugWithWell) := goodIn_app (goodIn_of _ (by decide +kernel)) ggX6_seep_X6_dugWithWell
set_option maxRecDepth 20000 in
theorem ggX6_seep_X0_runningWells : GoodIn wsX6_seep wsX0_runningWells := goodIn_r _ [27, 28, 29, 75, 76, 77, 78, 79, 80, 81, 82] (by decide +kernel) (by decide +kernel)
set_option maxRecDepth 20000 in
theorem gX6_seep_X0_runningWells : GoodIn wsX6_seep (wsV RX6 162 RX0 yX0_runningWells wsX0_runningWells) := goodIn_app (goodIn_of _ (by decide +kernel)) ggX6_seep_X0_runningWells
set_option maxRecDepth 20000 in
theorem ggX6_seep_X6_seepAt : GoodIn wsX6_seep wsX6_seepAt := goodIn_r _ [33, 34, 35, 36, 16, 17, 37, 38, 39, 40, 41, 42, 43, 44, 45, 46, 18, 19, 20, 21, 22, 23, 47, 48, 49, 5, 50, 51, 52, 24, 25, 26, 27, 28, 29, 53, 54, 55, 56, 57, 58, 59, 60, 61, 62, 63, 64, 65, 66, 67, 68, 69, 70, 71, 72, 73, 74, 75, 76, 77, 78, 79, 80, 81, 82] (by decide +kernel) (by decide +kernel)
set_option maxRecDepth 20000 in
theorem gX6_seep_X6_seepAt : GoodIn wsX6_seep (wsV RX6 165 RX6 yX6_seepAt wsX6_seepAt) := goodIn_app (goodIn_of _ (by decide +kernel)) ggX6_seep_X6_seepAt
theorem dX6_seep_0 : decode cX6_seep 0 = .ok (.aload_n 0, 1) := by decide +kernel
theorem dX6_seep_1 : decode cX6_seep 1 = .ok (.iload_n 1, 1) := by decide +kernel
theorem dX6_seep_2 : decode cX6_seep 2 = .ok (.iload_n 2, 1) := by decide +kernel
theorem dX6_seep_3 : decode cX6_seep 3 = .ok (.invokevirtual 147, 3) := by decide +kernel
theorem dX6_seep_6 : decode cX6_seep 6 = .ok (.astore_n 3, 1) := by decide +kernel
theorem dX6_seep_7 : decode cX6_seep 7 = .ok (.iload_n 2, 1) := by decide +kernel
theorem dX6_seep_8 : decode cX6_seep 8 = .ok (.aload_n 3, 1) := by decide +kernel
theorem dX6_seep_9 : decode cX6_seep 9 = .ok (.invokevirtual 162, 3) := by decide +kernel
theorem dX6_seep_12 : decode cX6_seep 12 = .ok (.if_icmp .ge 16, 3) := by decide +kernel
theorem dX6_seep_15 : decode cX6_seep 15 = .ok (.aload_n 0, 1) := by decide +kernel
theorem dX6_seep_16 : decode cX6_seep 16 = .ok (.aload_n 3, 1) := by decide +kernel
theorem dX6_seep_17 : decode cX6_seep 17 = .ok (.iload_n 2, 1) := by decide +kernel
theorem dX6_seep_18 : decode cX6_seep 18 = .ok (.aload_n 0, 1) := by decide +kernel
theorem dX6_seep_19 : decode cX6_seep 19 = .ok (.getfield 135, 3) := by decide +kernel
theorem dX6_seep_22 : decode cX6_seep 22 = .ok (.invokevirtual 165, 3) := by decide +kernel
theorem dX6_seep_25 : decode cX6_seep 25 = .ok (.goto 4, 3) := by decide +kernel
theorem dX6_seep_28 : decode cX6_seep 28 = .ok (.iconst 0, 1) := by decide +kernel
theorem dX6_seep_29 : decode cX6_seep 29 = .ok (.ireturn, 1) := by decide +kernel
set_option maxRecDepth 20000 in
theorem ggX6_sell_X6_unletAt : GoodIn wsX6_sell wsX6_unletAt := goodIn_ca (goodIn_ca (goodIn_r _ [14, 15, 16, 17, 18, 19, 20, 13, 21, 22, 23, 7, 24, 25, 26, 27, 28, 29, 30, 58, 59, 60, 61, 62, 63, 64, 65, 66, 67, 68, 69, 70, 71, 72, 73, 51, 52, 53, 54, 55, 56, 57] (by decide +kernel) (by decide +kernel)) (goodIn_sub (fun _ h => List.mem_cons_of_mem _ (List.mem_append_left _ (List.mem_append_right _ h))) (by decide +kernel))) (goodIn_sub (fun _ h => List.mem_cons_of_mem _ (List.mem_append_right _ h)) (by decide +kernel))
set_option maxRecDepth 20000 in
theorem gX6_sell_X6_unletAt : GoodIn wsX6_sell (wsV RX6 169 RX6 yX6_unletAt wsX6_unletAt) := goodIn_app (goodIn_of _ (by decide +kernel)) ggX6_sell_X6_unletAt
set_option maxRecDepth 20000 in
theorem ggX6_sell_X6_isOwner : GoodIn wsX6_sell wsX6_isOwner := goodIn_r _ [33, 34, 35, 13, 36] (by decide +kernel) (by decide +kernel)
set_option maxRecDepth 20000 in
theorem gX6_sell_X6_isOwner : GoodIn wsX6_sell (va_wsS RX6 117 yX6_isOwner wsX6_isOwner) := goodIn_app (goodIn_of _ (by decide +kernel)) ggX6_sell_X6_isOwner
set_option maxRecDepth 20000 in
theorem ggX6_sell_X6_addShare : GoodIn wsX6_sell wsX6_addShare := goodIn_r _ [40, 7, 24, 41, 42, 43, 28, 44, 45, 46, 47, 48, 49, 50, 30, 58, 59, 60, 61, 62, 63, 64, 65, 66, 67, 68, 69, 70, 71, 72, 73, 51, 52, 53, 54, 55, 56, 57] (by decide +kernel) (by decide +kernel)
set_option maxRecDepth 20000 in
theorem gX6_sell_X6_addShare : GoodIn wsX6_sell (wsV RX6 141 RX6 yX6_addShare wsX6_addShare) := goodIn_app (goodIn_of _ (by decide +kernel)) ggX6_sell_X6_addShare
set_option maxRecDepth 20000 in
theorem ggX6_sell_X4_become : GoodIn wsX6_sell wsX4_become := goodIn_r _ [44, 45, 46, 47, 48, 49, 50, 30, 51, 52, 53, 54, 55, 56, 57] (by decide +kernel) (by decide +kernel)
set_option maxRecDepth 20000 in
theorem gX6_sell_X4_become : GoodIn wsX6_sell (wsV RX6 189 RX4 yX4_become wsX4_become) := goodIn_app (goodIn_of _ (by decide +kernel)) ggX6_sell_X4_become
theorem dX6_sell_0 : decode cX6_sell 0 = .ok (.aload_n 0, 1) := by decide +kernel
theorem dX6_sell_1 : decode cX6_sell 1 = .ok (.iload_n 1, 1) := by decide +kernel
theorem dX6_sell_2 : decode cX6_sell 2 = .ok (.invokevirtual 169, 3) := by decide +kernel
theorem dX6_sell_5 : decode cX6_sell 5 = .ok (.astore 5, 2) := by decide +kernel
theorem dX6_sell_7 : decode cX6_sell 7 = .ok (.iload 4, 2) := by decide +kernel
theorem dX6_sell_9 : decode cX6_sell 9 = .ok (.invokestatic 117, 3) := by decide +kernel
theorem dX6_sell_12 : decode cX6_sell 12 = .ok (.ifCond .eq 26, 3) := by decide +kernel
theorem dX6_sell_15 : decode cX6_sell 15 = .ok (.iload_n 2, 1) := by decide +kernel
theorem dX6_sell_16 : decode cX6_sell 16 = .ok (.aload 5, 2) := by decide +kernel
theorem dX6_sell_18 : decode cX6_sell 18 = .ok (.getfield 173, 3) := by decide +kernel
theorem dX6_sell_21 : decode cX6_sell 21 = .ok (.if_icmp .lt 17, 3) := by decide +kernel
theorem dX6_sell_24 : decode cX6_sell 24 = .ok (.iload_n 2, 1) := by decide +kernel
theorem dX6_sell_25 : decode cX6_sell 25 = .ok (.iload_n 3, 1) := by decide +kernel
theorem dX6_sell_26 : decode cX6_sell 26 = .ok (.if_icmp .ge 12, 3) := by decide +kernel
theorem dX6_sell_29 : decode cX6_sell 29 = .ok (.iload_n 3, 1) := by decide +kernel
theorem dX6_sell_30 : decode cX6_sell 30 = .ok (.aload 5, 2) := by decide +kernel
theorem dX6_sell_32 : decode cX6_sell 32 = .ok (.getfield 176, 3) := by decide +kernel
theorem dX6_sell_35 : decode cX6_sell 35 = .ok (.if_icmp .le 13, 3) := by decide +kernel
theorem dX6_sell_38 : decode cX6_sell 38 = .ok (.new 79, 3) := by decide +kernel
theorem dX6_sell_41 : decode cX6_sell 41 = .ok (.dup, 1) := by decide +kernel
theorem dX6_sell_42 : decode cX6_sell 42 = .ok (.ldc 179, 2) := by decide +kernel
theorem dX6_sell_44 : decode cX6_sell 44 = .ok (.invokespecial 83, 3) := by decide +kernel
theorem dX6_sell_47 : decode cX6_sell 47 = .ok (.athrow, 1) := by decide +kernel
theorem dX6_sell_48 : decode cX6_sell 48 = .ok (.iload_n 2, 1) := by decide +kernel
theorem dX6_sell_49 : decode cX6_sell 49 = .ok (.aload 5, 2) := by decide +kernel
theorem dX6_sell_51 : decode cX6_sell 51 = .ok (.getfield 173, 3) := by decide +kernel
theorem dX6_sell_54 : decode cX6_sell 54 = .ok (.if_icmp .le 7, 3) := by decide +kernel
theorem dX6_sell_57 : decode cX6_sell 57 = .ok (.iconst 1, 1) := by decide +kernel
theorem dX6_sell_58 : decode cX6_sell 58 = .ok (.goto 4, 3) := by decide +kernel
theorem dX6_sell_61 : decode cX6_sell 61 = .ok (.iconst 0, 1) := by decide +kernel
theorem dX6_sell_62 : decode cX6_sell 62 = .ok (.istore 6, 2) := by decide +kernel
theorem dX6_sell_64 : decode cX6_sell 64 = .ok (.iload_n 3, 1) := by decide +kernel
theorem dX6_sell_65 : decode cX6_sell 65 = .ok (.aload 5, 2) := by decide +kernel
theorem dX6_sell_67 : decode cX6_sell 67 = .ok (.getfield 176, 3) := by decide +kernel
theorem dX6_sell_70 : decode cX6_sell 70 = .ok (.if_icmp .ge 7, 3) := by decide +kernel
theorem dX6_sell_73 : decode cX6_sell 73 = .ok (.iconst 1, 1) := by decide +kernel
theorem dX6_sell_74 : decode cX6_sell 74 = .ok (.goto 4, 3) := by decide +kernel
theorem dX6_sell_77 : decode cX6_sell 77 = .ok (.iconst 0, 1) := by decide +kernel
theorem dX6_sell_78 : decode cX6_sell 78 = .ok (.istore 7, 2) := by decide +kernel
theorem dX6_sell_80 : decode cX6_sell 80 = .ok (.aload_n 0, 1) := by decide +kernel
theorem dX6_sell_81 : decode cX6_sell 81 = .ok (.getfield 123, 3) := by decide +kernel
theorem dX6_sell_84 : decode cX6_sell 84 = .ok (.iload 6, 2) := by decide +kernel
theorem dX6_sell_86 : decode cX6_sell 86 = .ok (.ifCond .eq 7, 3) := by decide +kernel
theorem dX6_sell_89 : decode cX6_sell 89 = .ok (.iconst 1, 1) := by decide +kernel
theorem dX6_sell_90 : decode cX6_sell 90 = .ok (.goto 4, 3) := by decide +kernel
theorem dX6_sell_93 : decode cX6_sell 93 = .ok (.iconst 0, 1) := by decide +kernel
theorem dX6_sell_94 : decode cX6_sell 94 = .ok (.iadd, 1) := by decide +kernel
theorem dX6_sell_95 : decode cX6_sell 95 = .ok (.iload 7, 2) := by decide +kernel
theorem dX6_sell_97 : decode cX6_sell 97 = .ok (.ifCond .eq 7, 3) := by decide +kernel
theorem dX6_sell_100 : decode cX6_sell 100 = .ok (.iconst 1, 1) := by decide +kernel
theorem dX6_sell_101 : decode cX6_sell 101 = .ok (.goto 4, 3) := by decide +kernel
theorem dX6_sell_104 : decode cX6_sell 104 = .ok (.iconst 0, 1) := by decide +kernel
theorem dX6_sell_105 : decode cX6_sell 105 = .ok (.iadd, 1) := by decide +kernel
theorem dX6_sell_106 : decode cX6_sell 106 = .ok (.bipush 60, 2) := by decide +kernel
theorem dX6_sell_108 : decode cX6_sell 108 = .ok (.if_icmp .le 13, 3) := by decide +kernel
theorem dX6_sell_111 : decode cX6_sell 111 = .ok (.new 89, 3) := by decide +kernel
theorem dX6_sell_114 : decode cX6_sell 114 = .ok (.dup, 1) := by decide +kernel
theorem dX6_sell_115 : decode cX6_sell 115 = .ok (.ldc 181, 2) := by decide +kernel
theorem dX6_sell_117 : decode cX6_sell 117 = .ok (.invokespecial 93, 3) := by decide +kernel
theorem dX6_sell_120 : decode cX6_sell 120 = .ok (.athrow, 1) := by decide +kernel
theorem dX6_sell_121 : decode cX6_sell 121 = .ok (.iload 6, 2) := by decide +kernel
theorem dX6_sell_123 : decode cX6_sell 123 = .ok (.ifCond .eq 23, 3) := by decide +kernel
theorem dX6_sell_126 : decode cX6_sell 126 = .ok (.aload_n 0, 1) := by decide +kernel
theorem dX6_sell_127 : decode cX6_sell 127 = .ok (.aload 5, 2) := by decide +kernel
theorem dX6_sell_129 : decode cX6_sell 129 = .ok (.getfield 183, 3) := by decide +kernel
theorem dX6_sell_132 : decode cX6_sell 132 = .ok (.aload 5, 2) := by decide +kernel
theorem dX6_sell_134 : decode cX6_sell 134 = .ok (.getfield 173, 3) := by decide +kernel
theorem dX6_sell_137 : decode cX6_sell 137 = .ok (.iload_n 2, 1) := by decide +kernel
theorem dX6_sell_138 : decode cX6_sell 138 = .ok (.aload 5, 2) := by decide +kernel
theorem dX6_sell_140 : decode cX6_sell 140 = .ok (.getfield 186, 3) := by decide +kernel
theorem dX6_sell_143 : decode cX6_sell 143 = .ok (.invokevirtual 141, 3) := by decide +kernel
theorem dX6_sell_146 : decode cX6_sell 146 = .ok (.iload 7, 2) := by decide +kernel
theorem dX6_sell_148 : decode cX6_sell 148 = .ok (.ifCond .eq 23, 3) := by decide +kernel
theorem dX6_sell_151 : decode cX6_sell 151 = .ok (.aload_n 0, 1) := by decide +kernel
theorem dX6_sell_152 : decode cX6_sell 152 = .ok (.aload 5, 2) := by decide +kernel
theorem dX6_sell_154 : decode cX6_sell 154 = .ok (.getfield 183, 3) := by decide +kernel
theorem dX6_sell_157 : decode cX6_sell 157 = .ok (.iload_n 3, 1) := by decide +kernel
theorem dX6_sell_158 : decode cX6_sell 158 = .ok (.aload 5, 2) := by decide +kernel
theorem dX6_sell_160 : decode cX6_sell 160 = .ok (.getfield 176, 3) := by decide +kernel
theorem dX6_sell_163 : decode cX6_sell 163 = .ok (.aload 5, 2) := by decide +kernel
theorem dX6_sell_165 : decode cX6_sell 165 = .ok (.getfield 186, 3) := by decide +kernel
theorem dX6_sell_168 : decode cX6_sell 168 = .ok (.invokevirtual 141, 3) := by decide +kernel
theorem dX6_sell_171 : decode cX6_sell 171 = .ok (.aload 5, 2) := by decide +kernel
theorem dX6_sell_173 : decode cX6_sell 173 = .ok (.aload 5, 2) := by decide +kernel
theorem dX6_sell_175 : decode cX6_sell 175 = .ok (.getfield 183, 3) := by decide +kernel
theorem dX6_sell_178 : decode cX6_sell 178 = .ok (.iload_n 2, 1) := by decide +kernel
theorem dX6_sell_179 : decode cX6_sell 179 = .ok (.iload_n 3, 1) := by decide +kernel
theorem dX6_sell_180 : decode cX6_sell 180 = .ok (.iload 4, 2) := by decide +kernel
theorem dX6_sell_182 : decode cX6_sell 182 = .ok (.invokevirtual 189, 3) := by decide +kernel
theorem dX6_sell_185 : decode cX6_sell 185 = .ok (.return_, 1) := by decide +kernel
set_option maxRecDepth 20000 in
theorem ggX6_heirs_X6_unletAt : GoodIn wsX6_heirs wsX6_unletAt := goodIn_ca (goodIn_ca (goodIn_r _ [13, 14, 15, 16, 17, 18, 19, 12, 20, 21, 22, 8, 23, 24, 25, 26, 27, 28, 29, 74, 75, 76, 77, 78, 79, 80, 81, 82, 83, 84, 85, 86, 87, 88, 89, 90, 91, 92, 93, 94, 95, 96] (by decide +kernel) (by decide +kernel)) (goodIn_sub (fun _ h => List.mem_cons_of_mem _ (List.mem_append_left _ (List.mem_append_right _ h))) (by decide +kernel))) (goodIn_sub (fun _ h => List.mem_cons_of_mem _ (List.mem_append_right _ h)) (by decide +kernel))
set_option maxRecDepth 20000 in
theorem gX6_heirs_X6_unletAt : GoodIn wsX6_heirs (wsV RX6 169 RX6 yX6_unletAt wsX6_unletAt) := goodIn_app (goodIn_of _ (by decide +kernel)) ggX6_heirs_X6_unletAt
set_option maxRecDepth 20000 in
theorem ggX6_heirs_X2_name : GoodIn wsX6_heirs wsX2_name := goodIn_r _ [34, 35, 36, 37, 12, 38, 97, 98, 99] (by decide +kernel) (by decide +kernel)
set_option maxRecDepth 20000 in
theorem gX6_heirs_X2_name : GoodIn wsX6_heirs (wsV RX6 192 RX2 yX2_name wsX2_name) := goodIn_app (goodIn_of _ (by decide +kernel)) ggX6_heirs_X2_name
set_option maxRecDepth 20000 in
theorem ggX6_heirs_X6_isWithin : GoodIn wsX6_heirs wsX6_isWithin := goodIn_r _ [38] (by decide +kernel) (by decide +kernel)
set_option maxRecDepth 20000 in
theorem gX6_heirs_X6_isWithin : GoodIn wsX6_heirs (va_wsS RX6 75 yX6_isWithin wsX6_isWithin) := goodIn_app (goodIn_of _ (by decide +kernel)) ggX6_heirs_X6_isWithin
set_option maxRecDepth 20000 in
theorem ggX6_heirs_X2_firstStand : GoodIn wsX6_heirs wsX2_firstStand := goodIn_r _ [43, 35, 36, 44, 12, 45, 39, 37, 38, 97, 98, 99] (by decide +kernel) (by decide +kernel)
set_option maxRecDepth 20000 in
theorem gX6_heirs_X2_firstStand : GoodIn wsX6_heirs (wsV RX6 195 RX2 yX2_firstStand wsX2_firstStand) := goodIn_app (goodIn_of _ (by decide +kernel)) ggX6_heirs_X2_firstStand
set_option maxRecDepth 20000 in
theorem ggX6_heirs_X2_partLength : GoodIn wsX6_heirs wsX2_partLength := goodIn_r _ [49, 36, 50, 51, 12, 52, 97, 98, 99] (by decide +kernel) (by decide +kernel)
set_option maxRecDepth 20000 in
theorem gX6_heirs_X2_partLength : GoodIn wsX6_heirs (wsV RX6 200 RX2 yX2_partLength wsX2_partLength) := goodIn_app (goodIn_of _ (by decide +kernel)) ggX6_heirs_X2_partLength
set_option maxRecDepth 20000 in
theorem ggX6_heirs_X6_leaveTo : GoodIn wsX6_heirs wsX6_leaveTo := goodIn_r _ [56, 57, 7, 5, 58, 59, 60, 61, 62, 12, 63, 8, 23, 64, 65, 66, 27, 67, 68, 69, 70, 71, 72, 73, 29, 90, 91, 92, 93, 94, 95, 96, 74, 75, 76, 77, 78, 79, 80, 81, 82, 83, 84, 85, 86, 87, 88, 89, 97, 98, 99] (by decide +kernel) (by decide +kernel)
set_option maxRecDepth 20000 in
theorem gX6_heirs_X6_leaveTo : GoodIn wsX6_heirs (wsV RX6 204 RX6 yX6_leaveTo wsX6_leaveTo) := goodIn_app (goodIn_of _ (by decide +kernel)) ggX6_heirs_X6_leaveTo
theorem dX6_heirs_0 : decode cX6_heirs 0 = .ok (.aload_n 0, 1) := by decide +kernel
theorem dX6_heirs_1 : decode cX6_heirs 1 = .ok (.iload_n 1, 1) := by decide +kernel
theorem dX6_heirs_2 : decode cX6_heirs 2 = .ok (.invokevirtual 169, 3) := by decide +kernel
theorem dX6_heirs_5 : decode cX6_heirs 5 = .ok (.astore 11, 2) := by decide +kernel
theorem dX6_heirs_7 : decode cX6_heirs 7 = .ok (.aload_n 0, 1) := by decide +kernel
theorem dX6_heirs_8 : decode cX6_heirs 8 = .ok (.getfield 52, 3) := by decide +kernel
theorem dX6_heirs_11 : decode cX6_heirs 11 = .ok (.iconst 0, 1) := by decide +kernel
theorem dX6_heirs_12 : decode cX6_heirs 12 = .ok (.iload_n 3, 1) := by decide +kernel
theorem dX6_heirs_13 : decode cX6_heirs 13 = .ok (.iload 4, 2) := by decide +kernel
theorem dX6_heirs_15 : decode cX6_heirs 15 = .ok (.invokevirtual 192, 3) := by decide +kernel
theorem dX6_heirs_18 : decode cX6_heirs 18 = .ok (.aload_n 0, 1) := by decide +kernel
theorem dX6_heirs_19 : decode cX6_heirs 19 = .ok (.getfield 52, 3) := by decide +kernel
theorem dX6_heirs_22 : decode cX6_heirs 22 = .ok (.iconst 1, 1) := by decide +kernel
theorem dX6_heirs_23 : decode cX6_heirs 23 = .ok (.iload 5, 2) := by decide +kernel
theorem dX6_heirs_25 : decode cX6_heirs 25 = .ok (.iload 6, 2) := by decide +kernel
theorem dX6_heirs_27 : decode cX6_heirs 27 = .ok (.invokevirtual 192, 3) := by decide +kernel
theorem dX6_heirs_30 : decode cX6_heirs 30 = .ok (.aload_n 0, 1) := by decide +kernel
theorem dX6_heirs_31 : decode cX6_heirs 31 = .ok (.getfield 52, 3) := by decide +kernel
theorem dX6_heirs_34 : decode cX6_heirs 34 = .ok (.iconst 2, 1) := by decide +kernel
theorem dX6_heirs_35 : decode cX6_heirs 35 = .ok (.iload 7, 2) := by decide +kernel
theorem dX6_heirs_37 : decode cX6_heirs 37 = .ok (.iload 8, 2) := by decide +kernel
theorem dX6_heirs_39 : decode cX6_heirs 39 = .ok (.invokevirtual 192, 3) := by decide +kernel
theorem dX6_heirs_42 : decode cX6_heirs 42 = .ok (.aload_n 0, 1) := by decide +kernel
theorem dX6_heirs_43 : decode cX6_heirs 43 = .ok (.getfield 52, 3) := by decide +kernel
theorem dX6_heirs_46 : decode cX6_heirs 46 = .ok (.iconst 3, 1) := by decide +kernel
theorem dX6_heirs_47 : decode cX6_heirs 47 = .ok (.iload 9, 2) := by decide +kernel
theorem dX6_heirs_49 : decode cX6_heirs 49 = .ok (.iload 10, 2) := by decide +kernel
theorem dX6_heirs_51 : decode cX6_heirs 51 = .ok (.invokevirtual 192, 3) := by decide +kernel
theorem dX6_heirs_54 : decode cX6_heirs 54 = .ok (.iload_n 2, 1) := by decide +kernel
theorem dX6_heirs_55 : decode cX6_heirs 55 = .ok (.iconst 2, 1) := by decide +kernel
theorem dX6_heirs_56 : decode cX6_heirs 56 = .ok (.iconst 4, 1) := by decide +kernel
theorem dX6_heirs_57 : decode cX6_heirs 57 = .ok (.invokestatic 75, 3) := by decide +kernel
theorem dX6_heirs_60 : decode cX6_heirs 60 = .ok (.ifCond .eq 14, 3) := by decide +kernel
theorem dX6_heirs_63 : decode cX6_heirs 63 = .ok (.aload_n 0, 1) := by decide +kernel
theorem dX6_heirs_64 : decode cX6_heirs 64 = .ok (.getfield 52, 3) := by decide +kernel
theorem dX6_heirs_67 : decode cX6_heirs 67 = .ok (.iload_n 2, 1) := by decide +kernel
theorem dX6_heirs_68 : decode cX6_heirs 68 = .ok (.invokevirtual 195, 3) := by decide +kernel
theorem dX6_heirs_71 : decode cX6_heirs 71 = .ok (.ifCond .ne 13, 3) := by decide +kernel
theorem dX6_heirs_74 : decode cX6_heirs 74 = .ok (.new 79, 3) := by decide +kernel
theorem dX6_heirs_77 : decode cX6_heirs 77 = .ok (.dup, 1) := by decide +kernel
theorem dX6_heirs_78 : decode cX6_heirs 78 = .ok (.ldc 198, 2) := by decide +kernel
theorem dX6_heirs_80 : decode cX6_heirs 80 = .ok (.invokespecial 83, 3) := by decide +kernel
theorem dX6_heirs_83 : decode cX6_heirs 83 = .ok (.athrow, 1) := by decide +kernel
theorem dX6_heirs_84 : decode cX6_heirs 84 = .ok (.aload_n 0, 1) := by decide +kernel
theorem dX6_heirs_85 : decode cX6_heirs 85 = .ok (.getfield 52, 3) := by decide +kernel
theorem dX6_heirs_88 : decode cX6_heirs 88 = .ok (.aload 11, 2) := by decide +kernel
theorem dX6_heirs_90 : decode cX6_heirs 90 = .ok (.getfield 176, 3) := by decide +kernel
theorem dX6_heirs_93 : decode cX6_heirs 93 = .ok (.aload 11, 2) := by decide +kernel
theorem dX6_heirs_95 : decode cX6_heirs 95 = .ok (.getfield 173, 3) := by decide +kernel
theorem dX6_heirs_98 : decode cX6_heirs 98 = .ok (.isub, 1) := by decide +kernel
theorem dX6_heirs_99 : decode cX6_heirs 99 = .ok (.iload_n 2, 1) := by decide +kernel
theorem dX6_heirs_100 : decode cX6_heirs 100 = .ok (.invokevirtual 200, 3) := by decide +kernel
theorem dX6_heirs_103 : decode cX6_heirs 103 = .ok (.istore 12, 2) := by decide +kernel
theorem dX6_heirs_105 : decode cX6_heirs 105 = .ok (.aload_n 0, 1) := by decide +kernel
theorem dX6_heirs_106 : decode cX6_heirs 106 = .ok (.getfield 123, 3) := by decide +kernel
theorem dX6_heirs_109 : decode cX6_heirs 109 = .ok (.iload 12, 2) := by decide +kernel
theorem dX6_heirs_111 : decode cX6_heirs 111 = .ok (.iadd, 1) := by decide +kernel
theorem dX6_heirs_112 : decode cX6_heirs 112 = .ok (.iconst 1, 1) := by decide +kernel
theorem dX6_heirs_113 : decode cX6_heirs 113 = .ok (.isub, 1) := by decide +kernel
theorem dX6_heirs_114 : decode cX6_heirs 114 = .ok (.bipush 60, 2) := by decide +kernel
theorem dX6_heirs_116 : decode cX6_heirs 116 = .ok (.if_icmp .le 13, 3) := by decide +kernel
theorem dX6_heirs_119 : decode cX6_heirs 119 = .ok (.new 89, 3) := by decide +kernel
theorem dX6_heirs_122 : decode cX6_heirs 122 = .ok (.dup, 1) := by decide +kernel
theorem dX6_heirs_123 : decode cX6_heirs 123 = .ok (.ldc 181, 2) := by decide +kernel
theorem dX6_heirs_125 : decode cX6_heirs 125 = .ok (.invokespecial 93, 3) := by decide +kernel
theorem dX6_heirs_128 : decode cX6_heirs 128 = .ok (.athrow, 1) := by decide +kernel
theorem dX6_heirs_129 : decode cX6_heirs 129 = .ok (.aload_n 0, 1) := by decide +kernel
theorem dX6_heirs_130 : decode cX6_heirs 130 = .ok (.aload 11, 2) := by decide +kernel
theorem dX6_heirs_132 : decode cX6_heirs 132 = .ok (.iload_n 2, 1) := by decide +kernel
theorem dX6_heirs_133 : decode cX6_heirs 133 = .ok (.invokevirtual 204, 3) := by decide +kernel
theorem dX6_heirs_136 : decode cX6_heirs 136 = .ok (.iload 12, 2) := by decide +kernel
theorem dX6_heirs_138 : decode cX6_heirs 138 = .ok (.ireturn, 1) := by decide +kernel
set_option maxRecDepth 20000 in
theorem ggX6_let_X6_unletAt : GoodIn wsX6_let wsX6_unletAt := goodIn_ca (goodIn_ca (goodIn_r _ [13, 14, 15, 4, 16, 17, 18, 12, 19, 20, 21, 22, 23, 24, 25, 26, 27, 28, 29, 43, 44, 45, 46, 47, 48, 49, 50, 51, 52, 53, 54, 55, 56, 57, 58, 36, 37, 38, 39, 40, 41, 42] (by decide +kernel) (by decide +kernel)) (goodIn_sub (fun _ h => List.mem_cons_of_mem _ (List.mem_append_left _ (List.mem_append_right _ h))) (by decide +kernel))) (goodIn_sub (fun _ h => List.mem_cons_of_mem _ (List.mem_append_right _ h)) (by decide +kernel))
set_option maxRecDepth 20000 in
theorem gX6_let_X6_unletAt : GoodIn wsX6_let (wsV RX6 169 RX6 yX6_unletAt wsX6_unletAt) := goodIn_app (goodIn_of _ (by decide +kernel)) ggX6_let_X6_unletAt
set_option maxRecDepth 20000 in
theorem ggX6_let_X6_isOwner : GoodIn wsX6_let wsX6_isOwner := goodIn_r _ [32, 33, 34, 12, 35] (by decide +kernel) (by decide +kernel)
set_option maxRecDepth 20000 in
theorem gX6_let_X6_isOwner : GoodIn wsX6_let (va_wsS RX6 117 yX6_isOwner wsX6_isOwner) := goodIn_app (goodIn_of _ (by decide +kernel)) ggX6_let_X6_isOwner
theorem dX6_let_0 : decode cX6_let 0 = .ok (.aload_n 0, 1) := by decide +kernel
theorem dX6_let_1 : decode cX6_let 1 = .ok (.iload_n 1, 1) := by decide +kernel
theorem dX6_let_2 : decode cX6_let 2 = .ok (.invokevirtual 169, 3) := by decide +kernel
theorem dX6_let_5 : decode cX6_let 5 = .ok (.astore 5, 2) := by decide +kernel
theorem dX6_let_7 : decode cX6_let 7 = .ok (.iload_n 2, 1) := by decide +kernel
theorem dX6_let_8 : decode cX6_let 8 = .ok (.invokestatic 117, 3) := by decide +kernel
theorem dX6_let_11 : decode cX6_let 11 = .ok (.ifCond .eq 33, 3) := by decide +kernel
theorem dX6_let_14 : decode cX6_let 14 = .ok (.iload_n 2, 1) := by decide +kernel
theorem dX6_let_15 : decode cX6_let 15 = .ok (.aload 5, 2) := by decide +kernel
theorem dX6_let_17 : decode cX6_let 17 = .ok (.getfield 186, 3) := by decide +kernel
theorem dX6_let_20 : decode cX6_let 20 = .ok (.if_icmp .eq 24, 3) := by decide +kernel
theorem dX6_let_23 : decode cX6_let 23 = .ok (.iload_n 3, 1) := by decide +kernel
theorem dX6_let_24 : decode cX6_let 24 = .ok (.aload_n 0, 1) := by decide +kernel
theorem dX6_let_25 : decode cX6_let 25 = .ok (.getfield 208, 3) := by decide +kernel
theorem dX6_let_28 : decode cX6_let 28 = .ok (.if_icmp .lt 16, 3) := by decide +kernel
theorem dX6_let_31 : decode cX6_let 31 = .ok (.iload_n 3, 1) := by decide +kernel
theorem dX6_let_32 : decode cX6_let 32 = .ok (.iload 4, 2) := by decide +kernel
theorem dX6_let_34 : decode cX6_let 34 = .ok (.if_icmp .ge 10, 3) := by decide +kernel
theorem dX6_let_37 : decode cX6_let 37 = .ok (.iload 4, 2) := by decide +kernel
theorem dX6_let_39 : decode cX6_let 39 = .ok (.ldc 211, 2) := by decide +kernel
theorem dX6_let_41 : decode cX6_let 41 = .ok (.if_icmp .le 13, 3) := by decide +kernel
theorem dX6_let_44 : decode cX6_let 44 = .ok (.new 79, 3) := by decide +kernel
theorem dX6_let_47 : decode cX6_let 47 = .ok (.dup, 1) := by decide +kernel
theorem dX6_let_48 : decode cX6_let 48 = .ok (.ldc 212, 2) := by decide +kernel
theorem dX6_let_50 : decode cX6_let 50 = .ok (.invokespecial 83, 3) := by decide +kernel
theorem dX6_let_53 : decode cX6_let 53 = .ok (.athrow, 1) := by decide +kernel
theorem dX6_let_54 : decode cX6_let 54 = .ok (.aload 5, 2) := by decide +kernel
theorem dX6_let_56 : decode cX6_let 56 = .ok (.iload_n 2, 1) := by decide +kernel
theorem dX6_let_57 : decode cX6_let 57 = .ok (.putfield 214, 3) := by decide +kernel
theorem dX6_let_60 : decode cX6_let 60 = .ok (.aload 5, 2) := by decide +kernel
theorem dX6_let_62 : decode cX6_let 62 = .ok (.iload_n 3, 1) := by decide +kernel
theorem dX6_let_63 : decode cX6_let 63 = .ok (.putfield 217, 3) := by decide +kernel
theorem dX6_let_66 : decode cX6_let 66 = .ok (.aload 5, 2) := by decide +kernel
theorem dX6_let_68 : decode cX6_let 68 = .ok (.iload 4, 2) := by decide +kernel
theorem dX6_let_70 : decode cX6_let 70 = .ok (.putfield 220, 3) := by decide +kernel
theorem dX6_let_73 : decode cX6_let 73 = .ok (.return_, 1) := by decide +kernel
set_option maxRecDepth 20000 in
theorem ggX6_minutes_X6_isWithin : GoodIn wsX6_minutes wsX6_isWithin := goodIn_r _ [8] (by decide +kernel) (by decide +kernel)
set_option maxRecDepth 20000 in
theorem gX6_minutes_X6_isWithin : GoodIn wsX6_minutes (va_wsS RX6 75 yX6_isWithin wsX6_isWithin) := goodIn_app (goodIn_of _ (by decide +kernel)) ggX6_minutes_X6_isWithin
theorem dX6_minutes_0 : decode cX6_minutes 0 = .ok (.iload_n 1, 1) := by decide +kernel
theorem dX6_minutes_1 : decode cX6_minutes 1 = .ok (.iconst 0, 1) := by decide +kernel
theorem dX6_minutes_2 : decode cX6_minutes 2 = .ok (.ldc 223, 2) := by decide +kernel
theorem dX6_minutes_4 : decode cX6_minutes 4 = .ok (.invokestatic 75, 3) := by decide +kernel
theorem dX6_minutes_7 : decode cX6_minutes 7 = .ok (.ifCond .ne 13, 3) := by decide +kernel
theorem dX6_minutes_10 : decode cX6_minutes 10 = .ok (.new 79, 3) := by decide +kernel
theorem dX6_minutes_13 : decode cX6_minutes 13 = .ok (.dup, 1) := by decide +kernel
theorem dX6_minutes_14 : decode cX6_minutes 14 = .ok (.ldc 224, 2) := by decide +kernel
theorem dX6_minutes_16 : decode cX6_minutes 16 = .ok (.invokespecial 83, 3) := by decide +kernel
theorem dX6_minutes_19 : decode cX6_minutes 19 = .ok (.athrow, 1) := by decide +kernel
theorem dX6_minutes_20 : decode cX6_minutes 20 = .ok (.aload_n 0, 1) := by decide +kernel
theorem dX6_minutes_21 : decode cX6_minutes 21 = .ok (.dup, 1) := by decide +kernel
theorem dX6_minutes_22 : decode cX6_minutes 22 = .ok (.getfield 208, 3) := by decide +kernel
theorem dX6_minutes_25 : decode cX6_minutes 25 = .ok (.iload_n 1, 1) := by decide +kernel
theorem dX6_minutes_26 : decode cX6_minutes 26 = .ok (.iadd, 1) := by decide +kernel
theorem dX6_minutes_27 : decode cX6_minutes 27 = .ok (.putfield 208, 3) := by decide +kernel
theorem dX6_minutes_30 : decode cX6_minutes 30 = .ok (.aload_n 0, 1) := by decide +kernel
theorem dX6_minutes_31 : decode cX6_minutes 31 = .ok (.getfield 208, 3) := by decide +kernel
theorem dX6_minutes_34 : decode cX6_minutes 34 = .ok (.ireturn, 1) := by decide +kernel
set_option maxRecDepth 20000 in
theorem ggX6_holder_X6_channelAt : GoodIn wsX6_holder wsX6_channelAt := goodIn_ca (goodIn_r _ [13, 14, 15, 16, 17, 35, 36, 37, 38, 39, 40, 41, 42, 43, 44, 45, 46, 47, 48, 49, 50] (by decide +kernel) (by decide +kernel)) (goodIn_sub (fun _ h => List.mem_cons_of_mem _ (List.mem_append_right _ h)) (by decide +kernel))
set_option maxRecDepth 20000 in
theorem gX6_holder_X6_channelAt : GoodIn wsX6_holder (wsV RX6 226 RX6 yX6_channelAt wsX6_channelAt) := goodIn_app (goodIn_of _ (by decide +kernel)) ggX6_holder_X6_channelAt
set_option maxRecDepth 20000 in
theorem ggX6_holder_X4_heldBy : GoodIn wsX6_holder wsX4_heldBy := goodIn_r _ [22, 23, 24, 25, 26, 51, 52, 53, 54, 55, 56, 57] (by decide +kernel) (by decide +kernel)
set_option maxRecDepth 20000 in
theorem gX6_holder_X4_heldBy : GoodIn wsX6_holder (wsV RX6 231 RX4 yX4_heldBy wsX4_heldBy) := goodIn_app (goodIn_of _ (by decide +kernel)) ggX6_holder_X4_heldBy
theorem dX6_holder_0 : decode cX6_holder 0 = .ok (.aload_n 0, 1) := by decide +kernel
theorem dX6_holder_1 : decode cX6_holder 1 = .ok (.iload_n 1, 1) := by decide +kernel
theorem dX6_holder_2 : decode cX6_holder 2 = .ok (.invokevirtual 226, 3) := by decide +kernel
theorem dX6_holder_5 : decode cX6_holder 5 = .ok (.astore_n 3, 1) := by decide +kernel
theorem dX6_holder_6 : decode cX6_holder 6 = .ok (.iload_n 2, 1) := by decide +kernel
theorem dX6_holder_7 : decode cX6_holder 7 = .ok (.ifCond .ge 13, 3) := by decide +kernel
theorem dX6_holder_10 : decode cX6_holder 10 = .ok (.new 79, 3) := by decide +kernel
theorem dX6_holder_13 : decode cX6_holder 13 = .ok (.dup, 1) := by decide +kernel
theorem dX6_holder_14 : decode cX6_holder 14 = .ok (.ldc 229, 2) := by decide +kernel
theorem dX6_holder_16 : decode cX6_holder 16 = .ok (.invokespecial 83, 3) := by decide +kernel
theorem dX6_holder_19 : decode cX6_holder 19 = .ok (.athrow, 1) := by decide +kernel
theorem dX6_holder_20 : decode cX6_holder 20 = .ok (.aload_n 3, 1) := by decide +kernel
theorem dX6_holder_21 : decode cX6_holder 21 = .ok (.getfield 126, 3) := by decide +kernel
theorem dX6_holder_24 : decode cX6_holder 24 = .ok (.ifCond .gt 5, 3) := by decide +kernel
theorem dX6_holder_27 : decode cX6_holder 27 = .ok (.iconst (-1), 1) := by decide +kernel
theorem dX6_holder_28 : decode cX6_holder 28 = .ok (.ireturn, 1) := by decide +kernel
theorem dX6_holder_29 : decode cX6_holder 29 = .ok (.iload_n 2, 1) := by decide +kernel
theorem dX6_holder_30 : decode cX6_holder 30 = .ok (.aload_n 3, 1) := by decide +kernel
theorem dX6_holder_31 : decode cX6_holder 31 = .ok (.getfield 126, 3) := by decide +kernel
theorem dX6_holder_34 : decode cX6_holder 34 = .ok (.irem, 1) := by decide +kernel
theorem dX6_holder_35 : decode cX6_holder 35 = .ok (.istore 4, 2) := by decide +kernel
theorem dX6_holder_37 : decode cX6_holder 37 = .ok (.iconst 0, 1) := by decide +kernel
theorem dX6_holder_38 : decode cX6_holder 38 = .ok (.istore 5, 2) := by decide +kernel
theorem dX6_holder_40 : decode cX6_holder 40 = .ok (.iload 5, 2) := by decide +kernel
theorem dX6_holder_42 : decode cX6_holder 42 = .ok (.aload_n 0, 1) := by decide +kernel
theorem dX6_holder_43 : decode cX6_holder 43 = .ok (.getfield 123, 3) := by decide +kernel
theorem dX6_holder_46 : decode cX6_holder 46 = .ok (.if_icmp .ge 54, 3) := by decide +kernel
theorem dX6_holder_49 : decode cX6_holder 49 = .ok (.aload_n 0, 1) := by decide +kernel
theorem dX6_holder_50 : decode cX6_holder 50 = .ok (.getfield 44, 3) := by decide +kernel
theorem dX6_holder_53 : decode cX6_holder 53 = .ok (.iload 5, 2) := by decide +kernel
theorem dX6_holder_55 : decode cX6_holder 55 = .ok (.aaload, 1) := by decide +kernel
theorem dX6_holder_56 : decode cX6_holder 56 = .ok (.astore 6, 2) := by decide +kernel
theorem dX6_holder_58 : decode cX6_holder 58 = .ok (.aload 6, 2) := by decide +kernel
theorem dX6_holder_60 : decode cX6_holder 60 = .ok (.getfield 183, 3) := by decide +kernel
theorem dX6_holder_63 : decode cX6_holder 63 = .ok (.iload_n 1, 1) := by decide +kernel
theorem dX6_holder_64 : decode cX6_holder 64 = .ok (.if_icmp .ne 30, 3) := by decide +kernel
theorem dX6_holder_67 : decode cX6_holder 67 = .ok (.aload 6, 2) := by decide +kernel
theorem dX6_holder_69 : decode cX6_holder 69 = .ok (.getfield 173, 3) := by decide +kernel
theorem dX6_holder_72 : decode cX6_holder 72 = .ok (.iload 4, 2) := by decide +kernel
theorem dX6_holder_74 : decode cX6_holder 74 = .ok (.if_icmp .gt 20, 3) := by decide +kernel
theorem dX6_holder_77 : decode cX6_holder 77 = .ok (.iload 4, 2) := by decide +kernel
theorem dX6_holder_79 : decode cX6_holder 79 = .ok (.aload 6, 2) := by decide +kernel
theorem dX6_holder_81 : decode cX6_holder 81 = .ok (.getfield 176, 3) := by decide +kernel
theorem dX6_holder_84 : decode cX6_holder 84 = .ok (.if_icmp .ge 10, 3) := by decide +kernel
theorem dX6_holder_87 : decode cX6_holder 87 = .ok (.aload 6, 2) := by decide +kernel
theorem dX6_holder_89 : decode cX6_holder 89 = .ok (.iload_n 2, 1) := by decide +kernel
theorem dX6_holder_90 : decode cX6_holder 90 = .ok (.invokevirtual 231, 3) := by decide +kernel
theorem dX6_holder_93 : decode cX6_holder 93 = .ok (.ireturn, 1) := by decide +kernel
theorem dX6_holder_94 : decode cX6_holder 94 = .ok (.iinc 5 1, 3) := by decide +kernel
theorem dX6_holder_97 : decode cX6_holder 97 = .ok (.goto (-57), 3) := by decide +kernel
theorem dX6_holder_100 : decode cX6_holder 100 = .ok (.iconst (-1), 1) := by decide +kernel
theorem dX6_holder_101 : decode cX6_holder 101 = .ok (.ireturn, 1) := by decide +kernel
set_option maxRecDepth 20000 in
theorem ggX6_share_X6_shareAt : GoodIn wsX6_share wsX6_shareAt := goodIn_ca (goodIn_r _ [12, 13, 14, 15, 16, 30, 31, 32, 33, 34, 35, 36, 37, 38, 39, 40, 41, 42, 43, 44, 45] (by decide +kernel) (by decide +kernel)) (goodIn_sub (fun _ h => List.mem_cons_of_mem _ (List.mem_append_right _ h)) (by decide +kernel))
set_option maxRecDepth 20000 in
theorem gX6_share_X6_shareAt : GoodIn wsX6_share (wsV RX6 235 RX6 yX6_shareAt wsX6_shareAt) := goodIn_app (goodIn_of _ (by decide +kernel)) ggX6_share_X6_shareAt
set_option maxRecDepth 20000 in
theorem ggX6_share_X4_isLetFrom : GoodIn wsX6_share wsX4_isLetFrom := goodIn_r _ [21, 22, 23, 24, 25, 26, 27, 28, 29] (by decide +kernel) (by decide +kernel)
set_option maxRecDepth 20000 in
theorem gX6_share_X4_isLetFrom : GoodIn wsX6_share (wsV RX6 238 RX4 yX4_isLetFrom wsX4_isLetFrom) := goodIn_app (goodIn_of _ (by decide +kernel)) ggX6_share_X4_isLetFrom
theorem dX6_share_0 : decode cX6_share 0 = .ok (.aload_n 0, 1) := by decide +kernel
theorem dX6_share_1 : decode cX6_share 1 = .ok (.iload_n 1, 1) := by decide +kernel
theorem dX6_share_2 : decode cX6_share 2 = .ok (.invokevirtual 235, 3) := by decide +kernel
theorem dX6_share_5 : decode cX6_share 5 = .ok (.astore_n 3, 1) := by decide +kernel
theorem dX6_share_6 : decode cX6_share 6 = .ok (.iload_n 2, 1) := by decide +kernel
theorem dX6_share_7 : decode cX6_share 7 = .ok (.tableswitch 70 0 4 #[33, 38, 43, 48, 53], 33) := by decide +kernel
theorem dX6_share_40 : decode cX6_share 40 = .ok (.aload_n 3, 1) := by decide +kernel
theorem dX6_share_41 : decode cX6_share 41 = .ok (.getfield 183, 3) := by decide +kernel
theorem dX6_share_44 : decode cX6_share 44 = .ok (.ireturn, 1) := by decide +kernel
theorem dX6_share_45 : decode cX6_share 45 = .ok (.aload_n 3, 1) := by decide +kernel
theorem dX6_share_46 : decode cX6_share 46 = .ok (.getfield 173, 3) := by decide +kernel
theorem dX6_share_49 : decode cX6_share 49 = .ok (.ireturn, 1) := by decide +kernel
theorem dX6_share_50 : decode cX6_share 50 = .ok (.aload_n 3, 1) := by decide +kernel
theorem dX6_share_51 : decode cX6_share 51 = .ok (.getfield 176, 3) := by decide +kernel
theorem dX6_share_54 : decode cX6_share 54 = .ok (.ireturn, 1) := by decide +kernel
theorem dX6_share_55 : decode cX6_share 55 = .ok (.aload_n 3, 1) := by decide +kernel
theorem dX6_share_56 : decode cX6_share 56 = .ok (.getfield 186, 3) := by decide +kernel
theorem dX6_share_59 : decode cX6_share 59 = .ok (.ireturn, 1) := by decide +kernel
theorem dX6_share_60 : decode cX6_share 60 = .ok (.aload_n 3, 1) := by decide +kernel
theorem dX6_share_61 : decode cX6_share 61 = .ok (.aload_n 0, 1) := by decide +kernel
theorem dX6_share_62 : decode cX6_share 62 = .ok (.getfield 208, 3) := by decide +kernel
theorem dX6_share_65 : decode cX6_share 65 = .ok (.invokevirtual 238, 3) := by decide +kernel
theorem dX6_share_68 : decode cX6_share 68 = .ok (.ifCond .eq 7, 3) := by decide +kernel
theorem dX6_share_71 : decode cX6_share 71 = .ok (.iconst 1, 1) := by decide +kernel
theorem dX6_share_72 : decode cX6_share 72 = .ok (.goto 4, 3) := by decide +kernel
theorem dX6_share_75 : decode cX6_share 75 = .ok (.iconst 0, 1) := by decide +kernel
theorem dX6_share_76 : decode cX6_share 76 = .ok (.ireturn, 1) := by decide +kernel
theorem dX6_share_77 : decode cX6_share 77 = .ok (.new 241, 3) := by decide +kernel
theorem dX6_share_80 : decode cX6_share 80 = .ok (.dup, 1) := by decide +kernel
theorem dX6_share_81 : decode cX6_share 81 = .ok (.ldc 243, 2) := by decide +kernel
theorem dX6_share_83 : decode cX6_share 83 = .ok (.invokespecial 245, 3) := by decide +kernel
theorem dX6_share_86 : decode cX6_share 86 = .ok (.athrow, 1) := by decide +kernel
set_option maxRecDepth 20000 in
theorem ggX6_law_X3_readTerms : GoodIn wsX6_law wsX3_readTerms := goodIn_r _ [18, 19, 20, 11, 12, 13, 21, 22, 23, 24, 25, 26, 27, 28, 17, 29, 30, 31, 32, 33, 34, 35, 36, 37, 38, 39, 40, 41, 42, 43, 44, 45, 46, 47, 48, 49, 50, 51, 52, 53, 54, 55, 56, 57, 58, 59, 60, 61, 62, 63, 64, 65, 66, 67, 68, 69, 70, 71, 72, 73, 74, 75, 76, 77, 78, 79, 80, 81, 82, 83, 84, 85, 86, 87, 88, 89, 90, 91, 92, 93, 94, 95, 96, 97, 98, 99, 100, 101, 102, 103, 122, 123, 124, 125, 120, 121] (by decide +kernel) (by decide +kernel)
set_option maxRecDepth 20000 in
theorem gX6_law_X3_readTerms : GoodIn wsX6_law (wsV RX6 246 RX3 yX3_readTerms wsX3_readTerms) := goodIn_app (goodIn_of _ (by decide +kernel)) ggX6_law_X3_readTerms
theorem dX6_law_0 : decode cX6_law 0 = .ok (.aload_n 0, 1) := by decide +kernel
theorem dX6_law_1 : decode cX6_law 1 = .ok (.getfield 10, 3) := by decide +kernel
theorem dX6_law_4 : decode cX6_law 4 = .ok (.aload_n 0, 1) := by decide +kernel
theorem dX6_law_5 : decode cX6_law 5 = .ok (.getfield 21, 3) := by decide +kernel
theorem dX6_law_8 : decode cX6_law 8 = .ok (.invokevirtual 246, 3) := by decide +kernel
theorem dX6_law_11 : decode cX6_law 11 = .ok (.istore_n 1, 1) := by decide +kernel
theorem dX6_law_12 : decode cX6_law 12 = .ok (.aload_n 0, 1) := by decide +kernel
theorem dX6_law_13 : decode cX6_law 13 = .ok (.getfield 20, 3) := by decide +kernel
theorem dX6_law_16 : decode cX6_law 16 = .ok (.iconst 0, 1) := by decide +kernel
theorem dX6_law_17 : decode cX6_law 17 = .ok (.putfield 66, 3) := by decide +kernel
theorem dX6_law_20 : decode cX6_law 20 = .ok (.iload_n 1, 1) := by decide +kernel
theorem dX6_law_21 : decode cX6_law 21 = .ok (.iconst (-1), 1) := by decide +kernel
theorem dX6_law_22 : decode cX6_law 22 = .ok (.if_icmp .ne 24, 3) := by decide +kernel
theorem dX6_law_25 : decode cX6_law 25 = .ok (.aload_n 0, 1) := by decide +kernel
theorem dX6_law_26 : decode cX6_law 26 = .ok (.aload_n 0, 1) := by decide +kernel
theorem dX6_law_27 : decode cX6_law 27 = .ok (.getfield 10, 3) := by decide +kernel
theorem dX6_law_30 : decode cX6_law 30 = .ok (.getfield 250, 3) := by decide +kernel
theorem dX6_law_33 : decode cX6_law 33 = .ok (.putfield 25, 3) := by decide +kernel
theorem dX6_law_36 : decode cX6_law 36 = .ok (.new 79, 3) := by decide +kernel
theorem dX6_law_39 : decode cX6_law 39 = .ok (.dup, 1) := by decide +kernel
theorem dX6_law_40 : decode cX6_law 40 = .ok (.ldc 253, 2) := by decide +kernel
theorem dX6_law_42 : decode cX6_law 42 = .ok (.invokespecial 83, 3) := by decide +kernel
theorem dX6_law_45 : decode cX6_law 45 = .ok (.athrow, 1) := by decide +kernel
theorem dX6_law_46 : decode cX6_law 46 = .ok (.aload_n 0, 1) := by decide +kernel
theorem dX6_law_47 : decode cX6_law 47 = .ok (.iconst (-1), 1) := by decide +kernel
theorem dX6_law_48 : decode cX6_law 48 = .ok (.putfield 25, 3) := by decide +kernel
theorem dX6_law_51 : decode cX6_law 51 = .ok (.aload_n 0, 1) := by decide +kernel
theorem dX6_law_52 : decode cX6_law 52 = .ok (.getfield 10, 3) := by decide +kernel
theorem dX6_law_55 : decode cX6_law 55 = .ok (.getfield 255, 3) := by decide +kernel
theorem dX6_law_58 : decode cX6_law 58 = .ok (.iconst 0, 1) := by decide +kernel
theorem dX6_law_59 : decode cX6_law 59 = .ok (.aload_n 0, 1) := by decide +kernel
theorem dX6_law_60 : decode cX6_law 60 = .ok (.getfield 21, 3) := by decide +kernel
theorem dX6_law_63 : decode cX6_law 63 = .ok (.iconst 0, 1) := by decide +kernel
theorem dX6_law_64 : decode cX6_law 64 = .ok (.iconst 4, 1) := by decide +kernel
theorem dX6_law_65 : decode cX6_law 65 = .ok (.invokestatic 258, 3) := by decide +kernel
theorem dX6_law_68 : decode cX6_law 68 = .ok (.iload_n 1, 1) := by decide +kernel
theorem dX6_law_69 : decode cX6_law 69 = .ok (.ireturn, 1) := by decide +kernel
theorem dX6_fault_0 : decode cX6_fault 0 = .ok (.aload_n 0, 1) := by decide +kernel
theorem dX6_fault_1 : decode cX6_fault 1 = .ok (.getfield 25, 3) := by decide +kernel
theorem dX6_fault_4 : decode cX6_fault 4 = .ok (.ireturn, 1) := by decide +kernel
theorem dX6_says_0 : decode cX6_says 0 = .ok (.iload_n 1, 1) := by decide +kernel
theorem dX6_says_1 : decode cX6_says 1 = .ok (.ifCond .lt 8, 3) := by decide +kernel
theorem dX6_says_4 : decode cX6_says 4 = .ok (.iload_n 1, 1) := by decide +kernel
theorem dX6_says_5 : decode cX6_says 5 = .ok (.iconst 4, 1) := by decide +kernel
theorem dX6_says_6 : decode cX6_says 6 = .ok (.if_icmp .lt 14, 3) := by decide +kernel
theorem dX6_says_9 : decode cX6_says 9 = .ok (.new 241, 3) := by decide +kernel
theorem dX6_says_12 : decode cX6_says 12 = .ok (.dup, 1) := by decide +kernel
theorem dX6_says_13 : decode cX6_says 13 = .ok (.ldc_w 264, 3) := by decide +kernel
theorem dX6_says_16 : decode cX6_says 16 = .ok (.invokespecial 245, 3) := by decide +kernel
theorem dX6_says_19 : decode cX6_says 19 = .ok (.athrow, 1) := by decide +kernel
theorem dX6_says_20 : decode cX6_says 20 = .ok (.aload_n 0, 1) := by decide +kernel
theorem dX6_says_21 : decode cX6_says 21 = .ok (.getfield 21, 3) := by decide +kernel
theorem dX6_says_24 : decode cX6_says 24 = .ok (.iload_n 1, 1) := by decide +kernel
theorem dX6_says_25 : decode cX6_says 25 = .ok (.iaload, 1) := by decide +kernel
theorem dX6_says_26 : decode cX6_says 26 = .ok (.ireturn, 1) := by decide +kernel
set_option maxRecDepth 20000 in
theorem ggX6_pays_X6_dugAt : GoodIn wsX6_pays wsX6_dugAt := goodIn_ca (goodIn_ca (goodIn_r _ [9, 10, 11, 12, 13, 14, 8, 15, 16, 17, 18, 19, 20, 21, 22, 23, 24, 25, 50, 51, 52, 53, 54, 55, 56, 57, 58, 59, 60, 61, 62, 63, 64, 65, 66, 67, 68, 69, 70, 71, 72, 73] (by decide +kernel) (by decide +kernel)) (goodIn_sub (fun _ h => List.mem_cons_of_mem _ (List.mem_append_left _ (List.mem_append_right _ h))) (by decide +kernel))) (goodIn_sub (fun _ h => List.mem_cons_of_mem _ (List.mem_append_right _ h)) (by decide +kernel))
set_option maxRecDepth 20000 in
theorem gX6_pays_X6_dugAt : GoodIn wsX6_pays (wsV RX6 155 RX6 yX6_dugAt wsX6_dugAt) := goodIn_app (goodIn_of _ (by decide +kernel)) ggX6_pays_X6_dugAt
set_option maxRecDepth 20000 in
theorem ggX6_pays_X6_isOwner : GoodIn wsX6_pays wsX6_isOwner := goodIn_r _ [28, 29, 30, 8, 31] (by decide +kernel) (by decide +kernel)
set_option maxRecDepth 20000 in
theorem gX6_pays_X6_isOwner : GoodIn wsX6_pays (va_wsS RX6 117 yX6_isOwner wsX6_isOwner) := goodIn_app (goodIn_of _ (by decide +kernel)) ggX6_pays_X6_isOwner
set_option maxRecDepth 20000 in
theorem ggX6_pays_X6_isWithin : GoodIn wsX6_pays wsX6_isWithin := goodIn_r _ [31] (by decide +kernel) (by decide +kernel)
set_option maxRecDepth 20000 in
theorem gX6_pays_X6_isWithin : GoodIn wsX6_pays (va_wsS RX6 75 yX6_isWithin wsX6_isWithin) := goodIn_app (goodIn_of _ (by decide +kernel)) ggX6_pays_X6_isWithin
set_option maxRecDepth 20000 in
theorem ggX6_pays_X6_weighOwners : GoodIn wsX6_pays wsX6_weighOwners := goodIn_r _ [35, 36, 4, 37, 38, 39, 40, 41, 42, 50, 51, 52, 53, 54, 55, 56, 57, 58, 59, 60, 61, 62, 63, 64, 65, 74, 75, 76, 77, 78, 79, 80] (by decide +kernel) (by decide +kernel)
set_option maxRecDepth 20000 in
theorem gX6_pays_X6_weighOwners : GoodIn wsX6_pays (wsV RX6 269 RX6 yX6_weighOwners wsX6_weighOwners) := goodIn_app (goodIn_of _ (by decide +kernel)) ggX6_pays_X6_weighOwners
set_option maxRecDepth 20000 in
theorem ggX6_pays_X6_partOf : GoodIn wsX6_pays wsX6_partOf := goodIn_r _ [45] (by decide +kernel) (by decide +kernel)
set_option maxRecDepth 20000 in
theorem gX6_pays_X6_partOf : GoodIn wsX6_pays (va_wsS RX6 272 yX6_partOf wsX6_partOf) := goodIn_app (goodIn_of _ (by decide +kernel)) ggX6_pays_X6_partOf
set_option maxRecDepth 20000 in
theorem ggX6_pays_X6_paidBy : GoodIn wsX6_pays wsX6_paidBy := goodIn_r _ [49, 36, 43, 44, 8, 45, 50, 51, 52, 53, 54, 55, 56, 57, 58, 59, 60, 61, 62, 63, 64, 65] (by decide +kernel) (by decide +kernel)
set_option maxRecDepth 20000 in
theorem gX6_pays_X6_paidBy : GoodIn wsX6_pays (wsV RX6 276 RX6 yX6_paidBy wsX6_paidBy) := goodIn_app (goodIn_of _ (by decide +kernel)) ggX6_pays_X6_paidBy
theorem dX6_pays_0 : decode cX6_pays 0 = .ok (.aload_n 0, 1) := by decide +kernel
theorem dX6_pays_1 : decode cX6_pays 1 = .ok (.iload_n 1, 1) := by decide +kernel
theorem dX6_pays_2 : decode cX6_pays 2 = .ok (.invokevirtual 155, 3) := by decide +kernel
theorem dX6_pays_5 : decode cX6_pays 5 = .ok (.pop, 1) := by decide +kernel
theorem dX6_pays_6 : decode cX6_pays 6 = .ok (.iload_n 2, 1) := by decide +kernel
theorem dX6_pays_7 : decode cX6_pays 7 = .ok (.invokestatic 117, 3) := by decide +kernel
theorem dX6_pays_10 : decode cX6_pays 10 = .ok (.ifCond .eq 14, 3) := by decide +kernel
theorem dX6_pays_13 : decode cX6_pays 13 = .ok (.iload_n 3, 1) := by decide +kernel
theorem dX6_pays_14 : decode cX6_pays 14 = .ok (.iconst 0, 1) := by decide +kernel
theorem dX6_pays_15 : decode cX6_pays 15 = .ok (.ldc_w 266, 3) := by decide +kernel
theorem dX6_pays_18 : decode cX6_pays 18 = .ok (.invokestatic 75, 3) := by decide +kernel
theorem dX6_pays_21 : decode cX6_pays 21 = .ok (.ifCond .ne 14, 3) := by decide +kernel
theorem dX6_pays_24 : decode cX6_pays 24 = .ok (.new 79, 3) := by decide +kernel
theorem dX6_pays_27 : decode cX6_pays 27 = .ok (.dup, 1) := by decide +kernel
theorem dX6_pays_28 : decode cX6_pays 28 = .ok (.ldc_w 267, 3) := by decide +kernel
theorem dX6_pays_31 : decode cX6_pays 31 = .ok (.invokespecial 83, 3) := by decide +kernel
theorem dX6_pays_34 : decode cX6_pays 34 = .ok (.athrow, 1) := by decide +kernel
theorem dX6_pays_35 : decode cX6_pays 35 = .ok (.aload_n 0, 1) := by decide +kernel
theorem dX6_pays_36 : decode cX6_pays 36 = .ok (.iload_n 1, 1) := by decide +kernel
theorem dX6_pays_37 : decode cX6_pays 37 = .ok (.invokevirtual 269, 3) := by decide +kernel
theorem dX6_pays_40 : decode cX6_pays 40 = .ok (.aload_n 0, 1) := by decide +kernel
theorem dX6_pays_41 : decode cX6_pays 41 = .ok (.iload_n 2, 1) := by decide +kernel
theorem dX6_pays_42 : decode cX6_pays 42 = .ok (.iload_n 3, 1) := by decide +kernel
theorem dX6_pays_43 : decode cX6_pays 43 = .ok (.iload_n 3, 1) := by decide +kernel
theorem dX6_pays_44 : decode cX6_pays 44 = .ok (.aload_n 0, 1) := by decide +kernel
theorem dX6_pays_45 : decode cX6_pays 45 = .ok (.getfield 21, 3) := by decide +kernel
theorem dX6_pays_48 : decode cX6_pays 48 = .ok (.iconst 3, 1) := by decide +kernel
theorem dX6_pays_49 : decode cX6_pays 49 = .ok (.iaload, 1) := by decide +kernel
theorem dX6_pays_50 : decode cX6_pays 50 = .ok (.bipush 100, 2) := by decide +kernel
theorem dX6_pays_52 : decode cX6_pays 52 = .ok (.invokestatic 272, 3) := by decide +kernel
theorem dX6_pays_55 : decode cX6_pays 55 = .ok (.isub, 1) := by decide +kernel
theorem dX6_pays_56 : decode cX6_pays 56 = .ok (.invokevirtual 276, 3) := by decide +kernel
theorem dX6_pays_59 : decode cX6_pays 59 = .ok (.ireturn, 1) := by decide +kernel
set_option maxRecDepth 20000 in
theorem ggX6_field_X6_isWithin : GoodIn wsX6_field wsX6_isWithin := goodIn_r _ [8] (by decide +kernel) (by decide +kernel)
set_option maxRecDepth 20000 in
theorem gX6_field_X6_isWithin : GoodIn wsX6_field (va_wsS RX6 75 yX6_isWithin wsX6_isWithin) := goodIn_app (goodIn_of _ (by decide +kernel)) ggX6_field_X6_isWithin
set_option maxRecDepth 20000 in
theorem ggX6_field_X1_addField : GoodIn wsX6_field wsX1_addField := goodIn_r _ [13, 14, 15, 16, 17, 34, 35, 36, 37, 38] (by decide +kernel) (by decide +kernel)
set_option maxRecDepth 20000 in
theorem gX6_field_X1_addField : GoodIn wsX6_field (wsV RX6 284 RX1 yX1_addField wsX1_addField) := goodIn_app (goodIn_of _ (by decide +kernel)) ggX6_field_X1_addField
theorem dX6_field_0 : decode cX6_field 0 = .ok (.iload_n 1, 1) := by decide +kernel
theorem dX6_field_1 : decode cX6_field 1 = .ok (.iconst 1, 1) := by decide +kernel
theorem dX6_field_2 : decode cX6_field 2 = .ok (.sipush 1000, 3) := by decide +kernel
theorem dX6_field_5 : decode cX6_field 5 = .ok (.invokestatic 75, 3) := by decide +kernel
theorem dX6_field_8 : decode cX6_field 8 = .ok (.ifCond .eq 24, 3) := by decide +kernel
theorem dX6_field_11 : decode cX6_field 11 = .ok (.iload_n 2, 1) := by decide +kernel
theorem dX6_field_12 : decode cX6_field 12 = .ok (.iconst 0, 1) := by decide +kernel
theorem dX6_field_13 : decode cX6_field 13 = .ok (.sipush 10000, 3) := by decide +kernel
theorem dX6_field_16 : decode cX6_field 16 = .ok (.invokestatic 75, 3) := by decide +kernel
theorem dX6_field_19 : decode cX6_field 19 = .ok (.ifCond .eq 13, 3) := by decide +kernel
theorem dX6_field_22 : decode cX6_field 22 = .ok (.iload_n 3, 1) := by decide +kernel
theorem dX6_field_23 : decode cX6_field 23 = .ok (.iconst 0, 1) := by decide +kernel
theorem dX6_field_24 : decode cX6_field 24 = .ok (.bipush 100, 2) := by decide +kernel
theorem dX6_field_26 : decode cX6_field 26 = .ok (.invokestatic 75, 3) := by decide +kernel
theorem dX6_field_29 : decode cX6_field 29 = .ok (.ifCond .ne 14, 3) := by decide +kernel
theorem dX6_field_32 : decode cX6_field 32 = .ok (.new 79, 3) := by decide +kernel
theorem dX6_field_35 : decode cX6_field 35 = .ok (.dup, 1) := by decide +kernel
theorem dX6_field_36 : decode cX6_field 36 = .ok (.ldc_w 279, 3) := by decide +kernel
theorem dX6_field_39 : decode cX6_field 39 = .ok (.invokespecial 83, 3) := by decide +kernel
theorem dX6_field_42 : decode cX6_field 42 = .ok (.athrow, 1) := by decide +kernel
theorem dX6_field_43 : decode cX6_field 43 = .ok (.aload_n 0, 1) := by decide +kernel
theorem dX6_field_44 : decode cX6_field 44 = .ok (.getfield 62, 3) := by decide +kernel
theorem dX6_field_47 : decode cX6_field 47 = .ok (.getfield 281, 3) := by decide +kernel
theorem dX6_field_50 : decode cX6_field 50 = .ok (.bipush 9, 2) := by decide +kernel
theorem dX6_field_52 : decode cX6_field 52 = .ok (.if_icmp .lt 5, 3) := by decide +kernel
theorem dX6_field_55 : decode cX6_field 55 = .ok (.iconst (-1), 1) := by decide +kernel
theorem dX6_field_56 : decode cX6_field 56 = .ok (.ireturn, 1) := by decide +kernel
theorem dX6_field_57 : decode cX6_field 57 = .ok (.aload_n 0, 1) := by decide +kernel
theorem dX6_field_58 : decode cX6_field 58 = .ok (.getfield 62, 3) := by decide +kernel
theorem dX6_field_61 : decode cX6_field 61 = .ok (.iload_n 1, 1) := by decide +kernel
theorem dX6_field_62 : decode cX6_field 62 = .ok (.iload_n 2, 1) := by decide +kernel
theorem dX6_field_63 : decode cX6_field 63 = .ok (.iload_n 3, 1) := by decide +kernel
theorem dX6_field_64 : decode cX6_field 64 = .ok (.invokevirtual 284, 3) := by decide +kernel
theorem dX6_field_67 : decode cX6_field 67 = .ok (.aload_n 0, 1) := by decide +kernel
theorem dX6_field_68 : decode cX6_field 68 = .ok (.getfield 62, 3) := by decide +kernel
theorem dX6_field_71 : decode cX6_field 71 = .ok (.getfield 281, 3) := by decide +kernel
theorem dX6_field_74 : decode cX6_field 74 = .ok (.ireturn, 1) := by decide +kernel
set_option maxRecDepth 20000 in
theorem ggX6_least_X1_leastLoss : GoodIn wsX6_least wsX1_leastLoss := goodIn_r _ [7, 8, 9, 10, 11, 12, 13, 14, 15, 16, 17, 18, 19, 20, 21, 22, 6, 23, 24, 41, 42, 43, 44, 45] (by decide +kernel) (by decide +kernel)
set_option maxRecDepth 20000 in
theorem gX6_least_X1_leastLoss : GoodIn wsX6_least (wsV RX6 287 RX1 yX1_leastLoss wsX1_leastLoss) := goodIn_app (goodIn_of _ (by decide +kernel)) ggX6_least_X1_leastLoss
theorem dX6_least_0 : decode cX6_least 0 = .ok (.aload_n 0, 1) := by decide +kernel
theorem dX6_least_1 : decode cX6_least 1 = .ok (.getfield 62, 3) := by decide +kernel
theorem dX6_least_4 : decode cX6_least 4 = .ok (.invokevirtual 287, 3) := by decide +kernel
theorem dX6_least_7 : decode cX6_least 7 = .ok (.istore_n 1, 1) := by decide +kernel
theorem dX6_least_8 : decode cX6_least 8 = .ok (.aload_n 0, 1) := by decide +kernel
theorem dX6_least_9 : decode cX6_least 9 = .ok (.getfield 62, 3) := by decide +kernel
theorem dX6_least_12 : decode cX6_least 12 = .ok (.iconst 0, 1) := by decide +kernel
theorem dX6_least_13 : decode cX6_least 13 = .ok (.putfield 281, 3) := by decide +kernel
theorem dX6_least_16 : decode cX6_least 16 = .ok (.iload_n 1, 1) := by decide +kernel
theorem dX6_least_17 : decode cX6_least 17 = .ok (.ireturn, 1) := by decide +kernel
set_option maxRecDepth 20000 in
theorem ggX6_count_X6_letShares : GoodIn wsX6_count wsX6_letShares := goodIn_r _ [12, 5, 13, 4, 14, 15, 16, 17, 18, 19, 74, 75, 76, 77, 78, 79, 80, 81, 82, 83, 84, 85, 86, 87, 88, 89, 95, 96, 97, 98, 99, 100, 101] (by decide +kernel) (by decide +kernel)
set_option maxRecDepth 20000 in
theorem gX6_count_X6_letShares : GoodIn wsX6_count (wsV RX6 290 RX6 yX6_letShares wsX6_letShares) := goodIn_app (goodIn_of _ (by decide +kernel)) ggX6_count_X6_letShares
set_option maxRecDepth 20000 in
theorem ggX6_count_X6_flowOfAll : GoodIn wsX6_count wsX6_flowOfAll := goodIn_r _ [23, 1, 24, 2, 25, 26, 27, 28, 29, 30, 31, 32, 33, 11, 34, 35, 36, 37, 38, 39, 40, 41, 42, 43, 44, 45, 46, 47, 48, 49, 50, 51, 52, 53, 54, 55, 56, 57, 58, 59, 60, 61, 3, 62, 63, 64, 65, 66, 67, 68, 69, 70, 71, 72, 73, 74, 75, 76, 77, 78, 79, 80, 81, 82, 83, 84, 85, 86, 87, 88, 89, 102, 103, 104, 105, 106, 107, 108, 109] (by decide +kernel) (by decide +kernel)
set_option maxRecDepth 20000 in
theorem gX6_count_X6_flowOfAll : GoodIn wsX6_count (wsV RX6 293 RX6 yX6_flowOfAll wsX6_flowOfAll) := goodIn_app (goodIn_of _ (by decide +kernel)) ggX6_count_X6_flowOfAll
theorem dX6_count_0 : decode cX6_count 0 = .ok (.iload_n 1, 1) := by decide +kernel
theorem dX6_count_1 : decode cX6_count 1 = .ok (.tableswitch 90 0 7 #[47, 52, 57, 62, 67, 72, 77, 85], 47) := by decide +kernel
theorem dX6_count_48 : decode cX6_count 48 = .ok (.aload_n 0, 1) := by decide +kernel
theorem dX6_count_49 : decode cX6_count 49 = .ok (.getfield 86, 3) := by decide +kernel
theorem dX6_count_52 : decode cX6_count 52 = .ok (.ireturn, 1) := by decide +kernel
theorem dX6_count_53 : decode cX6_count 53 = .ok (.aload_n 0, 1) := by decide +kernel
theorem dX6_count_54 : decode cX6_count 54 = .ok (.getfield 135, 3) := by decide +kernel
theorem dX6_count_57 : decode cX6_count 57 = .ok (.ireturn, 1) := by decide +kernel
theorem dX6_count_58 : decode cX6_count 58 = .ok (.aload_n 0, 1) := by decide +kernel
theorem dX6_count_59 : decode cX6_count 59 = .ok (.getfield 129, 3) := by decide +kernel
theorem dX6_count_62 : decode cX6_count 62 = .ok (.ireturn, 1) := by decide +kernel
theorem dX6_count_63 : decode cX6_count 63 = .ok (.aload_n 0, 1) := by decide +kernel
theorem dX6_count_64 : decode cX6_count 64 = .ok (.getfield 208, 3) := by decide +kernel
theorem dX6_count_67 : decode cX6_count 67 = .ok (.ireturn, 1) := by decide +kernel
theorem dX6_count_68 : decode cX6_count 68 = .ok (.aload_n 0, 1) := by decide +kernel
theorem dX6_count_69 : decode cX6_count 69 = .ok (.getfield 123, 3) := by decide +kernel
theorem dX6_count_72 : decode cX6_count 72 = .ok (.ireturn, 1) := by decide +kernel
theorem dX6_count_73 : decode cX6_count 73 = .ok (.aload_n 0, 1) := by decide +kernel
theorem dX6_count_74 : decode cX6_count 74 = .ok (.invokevirtual 290, 3) := by decide +kernel
theorem dX6_count_77 : decode cX6_count 77 = .ok (.ireturn, 1) := by decide +kernel
theorem dX6_count_78 : decode cX6_count 78 = .ok (.aload_n 0, 1) := by decide +kernel
theorem dX6_count_79 : decode cX6_count 79 = .ok (.getfield 62, 3) := by decide +kernel
theorem dX6_count_82 : decode cX6_count 82 = .ok (.getfield 281, 3) := by decide +kernel
theorem dX6_count_85 : decode cX6_count 85 = .ok (.ireturn, 1) := by decide +kernel
theorem dX6_count_86 : decode cX6_count 86 = .ok (.aload_n 0, 1) := by decide +kernel
theorem dX6_count_87 : decode cX6_count 87 = .ok (.invokevirtual 293, 3) := by decide +kernel
theorem dX6_count_90 : decode cX6_count 90 = .ok (.ireturn, 1) := by decide +kernel
theorem dX6_count_91 : decode cX6_count 91 = .ok (.iconst (-1), 1) := by decide +kernel
theorem dX6_count_92 : decode cX6_count 92 = .ok (.ireturn, 1) := by decide +kernel
theorem dX6_isWithin_0 : decode cX6_isWithin 0 = .ok (.iload_n 0, 1) := by decide +kernel
theorem dX6_isWithin_1 : decode cX6_isWithin 1 = .ok (.iload_n 1, 1) := by decide +kernel
theorem dX6_isWithin_2 : decode cX6_isWithin 2 = .ok (.if_icmp .lt 12, 3) := by decide +kernel
theorem dX6_isWithin_5 : decode cX6_isWithin 5 = .ok (.iload_n 0, 1) := by decide +kernel
theorem dX6_isWithin_6 : decode cX6_isWithin 6 = .ok (.iload_n 2, 1) := by decide +kernel
theorem dX6_isWithin_7 : decode cX6_isWithin 7 = .ok (.if_icmp .gt 7, 3) := by decide +kernel
theorem dX6_isWithin_10 : decode cX6_isWithin 10 = .ok (.iconst 1, 1) := by decide +kernel
theorem dX6_isWithin_11 : decode cX6_isWithin 11 = .ok (.goto 4, 3) := by decide +kernel
theorem dX6_isWithin_14 : decode cX6_isWithin 14 = .ok (.iconst 0, 1) := by decide +kernel
theorem dX6_isWithin_15 : decode cX6_isWithin 15 = .ok (.ireturn, 1) := by decide +kernel
set_option maxRecDepth 20000 in
theorem ggX6_isOwner_X6_isWithin : GoodIn wsX6_isOwner wsX6_isWithin := goodIn_r _ [4] (by decide +kernel) (by decide +kernel)
set_option maxRecDepth 20000 in
theorem gX6_isOwner_X6_isWithin : GoodIn wsX6_isOwner (va_wsS RX6 75 yX6_isWithin wsX6_isWithin) := goodIn_app (goodIn_of _ (by decide +kernel)) ggX6_isOwner_X6_isWithin
theorem dX6_isOwner_0 : decode cX6_isOwner 0 = .ok (.iload_n 0, 1) := by decide +kernel
theorem dX6_isOwner_1 : decode cX6_isOwner 1 = .ok (.iconst 0, 1) := by decide +kernel
theorem dX6_isOwner_2 : decode cX6_isOwner 2 = .ok (.bipush 30, 2) := by decide +kernel
theorem dX6_isOwner_4 : decode cX6_isOwner 4 = .ok (.invokestatic 75, 3) := by decide +kernel
theorem dX6_isOwner_7 : decode cX6_isOwner 7 = .ok (.ireturn, 1) := by decide +kernel
theorem dX6_kingSteps_0 : decode cX6_kingSteps 0 = .ok (.iload_n 0, 1) := by decide +kernel
theorem dX6_kingSteps_1 : decode cX6_kingSteps 1 = .ok (.iload_n 2, 1) := by decide +kernel
theorem dX6_kingSteps_2 : decode cX6_kingSteps 2 = .ok (.isub, 1) := by decide +kernel
theorem dX6_kingSteps_3 : decode cX6_kingSteps 3 = .ok (.invokestatic 296, 3) := by decide +kernel
theorem dX6_kingSteps_6 : decode cX6_kingSteps 6 = .ok (.iload_n 1, 1) := by decide +kernel
theorem dX6_kingSteps_7 : decode cX6_kingSteps 7 = .ok (.iload_n 3, 1) := by decide +kernel
theorem dX6_kingSteps_8 : decode cX6_kingSteps 8 = .ok (.isub, 1) := by decide +kernel
theorem dX6_kingSteps_9 : decode cX6_kingSteps 9 = .ok (.invokestatic 296, 3) := by decide +kernel
theorem dX6_kingSteps_12 : decode cX6_kingSteps 12 = .ok (.invokestatic 301, 3) := by decide +kernel
theorem dX6_kingSteps_15 : decode cX6_kingSteps 15 = .ok (.ireturn, 1) := by decide +kernel
theorem dX6_partOf_0 : decode cX6_partOf 0 = .ok (.iload_n 2, 1) := by decide +kernel
theorem dX6_partOf_1 : decode cX6_partOf 1 = .ok (.ifCond .gt 7, 3) := by decide +kernel
theorem dX6_partOf_4 : decode cX6_partOf 4 = .ok (.iconst 0, 1) := by decide +kernel
theorem dX6_partOf_5 : decode cX6_partOf 5 = .ok (.goto 12, 3) := by decide +kernel
theorem dX6_partOf_8 : decode cX6_partOf 8 = .ok (.iload_n 0, 1) := by decide +kernel
theorem dX6_partOf_9 : decode cX6_partOf 9 = .ok (.i2l, 1) := by decide +kernel
theorem dX6_partOf_10 : decode cX6_partOf 10 = .ok (.iload_n 1, 1) := by decide +kernel
theorem dX6_partOf_11 : decode cX6_partOf 11 = .ok (.i2l, 1) := by decide +kernel
theorem dX6_partOf_12 : decode cX6_partOf 12 = .ok (.lmul, 1) := by decide +kernel
theorem dX6_partOf_13 : decode cX6_partOf 13 = .ok (.iload_n 2, 1) := by decide +kernel
theorem dX6_partOf_14 : decode cX6_partOf 14 = .ok (.i2l, 1) := by decide +kernel
theorem dX6_partOf_15 : decode cX6_partOf 15 = .ok (.ldiv, 1) := by decide +kernel
theorem dX6_partOf_16 : decode cX6_partOf 16 = .ok (.l2i, 1) := by decide +kernel
theorem dX6_partOf_17 : decode cX6_partOf 17 = .ok (.ireturn, 1) := by decide +kernel
theorem dX6_channelAt_0 : decode cX6_channelAt 0 = .ok (.iload_n 1, 1) := by decide +kernel
theorem dX6_channelAt_1 : decode cX6_channelAt 1 = .ok (.ifCond .lt 11, 3) := by decide +kernel
theorem dX6_channelAt_4 : decode cX6_channelAt 4 = .ok (.iload_n 1, 1) := by decide +kernel
theorem dX6_channelAt_5 : decode cX6_channelAt 5 = .ok (.aload_n 0, 1) := by decide +kernel
theorem dX6_channelAt_6 : decode cX6_channelAt 6 = .ok (.getfield 86, 3) := by decide +kernel
theorem dX6_channelAt_9 : decode cX6_channelAt 9 = .ok (.if_icmp .lt 14, 3) := by decide +kernel
theorem dX6_channelAt_12 : decode cX6_channelAt 12 = .ok (.new 304, 3) := by decide +kernel
theorem dX6_channelAt_15 : decode cX6_channelAt 15 = .ok (.dup, 1) := by decide +kernel
theorem dX6_channelAt_16 : decode cX6_channelAt 16 = .ok (.ldc_w 306, 3) := by decide +kernel
theorem dX6_channelAt_19 : decode cX6_channelAt 19 = .ok (.invokespecial 308, 3) := by decide +kernel
theorem dX6_channelAt_22 : decode cX6_channelAt 22 = .ok (.athrow, 1) := by decide +kernel
theorem dX6_channelAt_23 : decode cX6_channelAt 23 = .ok (.aload_n 0, 1) := by decide +kernel
theorem dX6_channelAt_24 : decode cX6_channelAt 24 = .ok (.getfield 31, 3) := by decide +kernel
theorem dX6_channelAt_27 : decode cX6_channelAt 27 = .ok (.iload_n 1, 1) := by decide +kernel
theorem dX6_channelAt_28 : decode cX6_channelAt 28 = .ok (.aaload, 1) := by decide +kernel
theorem dX6_channelAt_29 : decode cX6_channelAt 29 = .ok (.areturn, 1) := by decide +kernel
set_option maxRecDepth 20000 in
theorem ggX6_undugAt_X6_channelAt : GoodIn wsX6_undugAt wsX6_channelAt := goodIn_ca (goodIn_r _ [7, 8, 9, 10, 11, 18, 19, 20, 21, 22, 23, 24, 25, 26, 27, 28, 29, 30, 31, 32, 33] (by decide +kernel) (by decide +kernel)) (goodIn_sub (fun _ h => List.mem_cons_of_mem _ (List.mem_append_right _ h)) (by decide +kernel))
set_option maxRecDepth 20000 in
theorem gX6_undugAt_X6_channelAt : GoodIn wsX6_undugAt (wsV RX6 226 RX6 yX6_channelAt wsX6_channelAt) := goodIn_app (goodIn_of _ (by decide +kernel)) ggX6_undugAt_X6_channelAt
set_option maxRecDepth 20000 in
theorem ggX6_undugAt_X0_isDug : GoodIn wsX6_undugAt wsX0_isDug := goodIn_r _ [16, 17, 34, 35, 36, 37, 38, 39, 40, 41] (by decide +kernel) (by decide +kernel)
set_option maxRecDepth 20000 in
theorem gX6_undugAt_X0_isDug : GoodIn wsX6_undugAt (wsV RX6 309 RX0 yX0_isDug wsX0_isDug) := goodIn_app (goodIn_of _ (by decide +kernel)) ggX6_undugAt_X0_isDug
theorem dX6_undugAt_0 : decode cX6_undugAt 0 = .ok (.aload_n 0, 1) := by decide +kernel
theorem dX6_undugAt_1 : decode cX6_undugAt 1 = .ok (.iload_n 1, 1) := by decide +kernel
theorem dX6_undugAt_2 : decode cX6_undugAt 2 = .ok (.invokevirtual 226, 3) := by decide +kernel
theorem dX6_undugAt_5 : decode cX6_undugAt 5 = .ok (.astore_n 2, 1) := by decide +kernel
theorem dX6_undugAt_6 : decode cX6_undugAt 6 = .ok (.aload_n 2, 1) := by decide +kernel
theorem dX6_undugAt_7 : decode cX6_undugAt 7 = .ok (.invokevirtual 309, 3) := by decide +kernel
theorem dX6_undugAt_10 : decode cX6_undugAt 10 = .ok (.ifCond .eq 14, 3) := by decide +kernel
theorem dX6_undugAt_13 : decode cX6_undugAt 13 = .ok (.new 313, 3) := by decide +kernel
theorem dX6_undugAt_16 : decode cX6_undugAt 16 = .ok (.dup, 1) := by decide +kernel
theorem dX6_undugAt_17 : decode cX6_undugAt 17 = .ok (.ldc_w 315, 3) := by decide +kernel
theorem dX6_undugAt_20 : decode cX6_undugAt 20 = .ok (.invokespecial 317, 3) := by decide +kernel
theorem dX6_undugAt_23 : decode cX6_undugAt 23 = .ok (.athrow, 1) := by decide +kernel
theorem dX6_undugAt_24 : decode cX6_undugAt 24 = .ok (.aload_n 2, 1) := by decide +kernel
theorem dX6_undugAt_25 : decode cX6_undugAt 25 = .ok (.areturn, 1) := by decide +kernel
set_option maxRecDepth 20000 in
theorem ggX6_dugAt_X6_channelAt : GoodIn wsX6_dugAt wsX6_channelAt := goodIn_ca (goodIn_r _ [7, 8, 9, 10, 11, 18, 19, 20, 21, 22, 23, 24, 25, 26, 27, 28, 29, 30, 31, 32, 33] (by decide +kernel) (by decide +kernel)) (goodIn_sub (fun _ h => List.mem_cons_of_mem _ (List.mem_append_right _ h)) (by decide +kernel))
set_option maxRecDepth 20000 in
theorem gX6_dugAt_X6_channelAt : GoodIn wsX6_dugAt (wsV RX6 226 RX6 yX6_channelAt wsX6_channelAt) := goodIn_app (goodIn_of _ (by decide +kernel)) ggX6_dugAt_X6_channelAt
set_option maxRecDepth 20000 in
theorem ggX6_dugAt_X0_isDug : GoodIn wsX6_dugAt wsX0_isDug := goodIn_r _ [16, 17, 34, 35, 36, 37, 38, 39, 40, 41] (by decide +kernel) (by decide +kernel)
set_option maxRecDepth 20000 in
theorem gX6_dugAt_X0_isDug : GoodIn wsX6_dugAt (wsV RX6 309 RX0 yX0_isDug wsX0_isDug) := goodIn_app (goodIn_of _ (by decide +kernel)) ggX6_dugAt_X0_isDug
theorem dX6_dugAt_0 : decode cX6_dugAt 0 = .ok (.aload_n 0, 1) := by decide +kernel
theorem dX6_dugAt_1 : decode cX6_dugAt 1 = .ok (.iload_n 1, 1) := by decide +kernel
theorem dX6_dugAt_2 : decode cX6_dugAt 2 = .ok (.invokevirtual 226, 3) := by decide +kernel
theorem dX6_dugAt_5 : decode cX6_dugAt 5 = .ok (.astore_n 2, 1) := by decide +kernel
theorem dX6_dugAt_6 : decode cX6_dugAt 6 = .ok (.aload_n 2, 1) := by decide +kernel
theorem dX6_dugAt_7 : decode cX6_dugAt 7 = .ok (.invokevirtual 309, 3) := by decide +kernel
theorem dX6_dugAt_10 : decode cX6_dugAt 10 = .ok (.ifCond .ne 14, 3) := by decide +kernel
theorem dX6_dugAt_13 : decode cX6_dugAt 13 = .ok (.new 313, 3) := by decide +kernel
theorem dX6_dugAt_16 : decode cX6_dugAt 16 = .ok (.dup, 1) := by decide +kernel
theorem dX6_dugAt_17 : decode cX6_dugAt 17 = .ok (.ldc_w 318, 3) := by decide +kernel
theorem dX6_dugAt_20 : decode cX6_dugAt 20 = .ok (.invokespecial 317, 3) := by decide +kernel
theorem dX6_dugAt_23 : decode cX6_dugAt 23 = .ok (.athrow, 1) := by decide +kernel
theorem dX6_dugAt_24 : decode cX6_dugAt 24 = .ok (.aload_n 2, 1) := by decide +kernel
theorem dX6_dugAt_25 : decode cX6_dugAt 25 = .ok (.areturn, 1) := by decide +kernel
set_option maxRecDepth 20000 in
theorem ggX6_dugWithWell_X6_channelAt : GoodIn wsX6_dugWithWell wsX6_channelAt := goodIn_ca (goodIn_r _ [10, 1, 2, 11, 12, 27, 28, 29, 30, 31, 32, 33, 34, 35, 36, 37, 38, 39, 40, 41, 42] (by decide +kernel) (by decide +kernel)) (goodIn_sub (fun _ h => List.mem_cons_of_mem _ (List.mem_append_left _ (List.mem_append_right _ h))) (by decide +kernel))
set_option maxRecDepth 20000 in
theorem gX6_dugWithWell_X6_channelAt : GoodIn wsX6_dugWithWell (wsV RX6 226 RX6 yX6_channelAt wsX6_channelAt) := goodIn_app (goodIn_of _ (by decide +kernel)) ggX6_dugWithWell_X6_channelAt
set_option maxRecDepth 20000 in
theorem ggX6_dugWithWell_X0_isDug : GoodIn wsX6_dugWithWell wsX0_isDug := goodIn_r _ [17, 18, 19, 20, 21, 22, 23, 24, 25, 26] (by decide +kernel) (by decide +kernel)
set_option maxRecDepth 20000 in
theorem gX6_dugWithWell_X0_isDug : GoodIn wsX6_dugWithWell (wsV RX6 309 RX0 yX0_isDug wsX0_isDug) := goodIn_app (goodIn_of _ (by decide +kernel)) ggX6_dugWithWell_X0_isDug
theorem dX6_dugWithWell_0 : decode cX6_dugWithWell 0 = .ok (.aload_n 0, 1) := by decide +kernel
theorem dX6_dugWithWell_1 : decode cX6_dugWithWell 1 = .ok (.iload_n 1, 1) := by decide +kernel
theorem dX6_dugWithWell_2 : decode cX6_dugWithWell 2 = .ok (.invokevirtual 226, 3) := by decide +kernel
theorem dX6_dugWithWell_5 : decode cX6_dugWithWell 5 = .ok (.astore_n 3, 1) := by decide +kernel
theorem dX6_dugWithWell_6 : decode cX6_dugWithWell 6 = .ok (.iload_n 2, 1) := by decide +kernel
theorem dX6_dugWithWell_7 : decode cX6_dugWithWell 7 = .ok (.ifCond .lt 11, 3) := by decide +kernel
theorem dX6_dugWithWell_10 : decode cX6_dugWithWell 10 = .ok (.iload_n 2, 1) := by decide +kernel
theorem dX6_dugWithWell_11 : decode cX6_dugWithWell 11 = .ok (.aload_n 3, 1) := by decide +kernel
theorem dX6_dugWithWell_12 : decode cX6_dugWithWell 12 = .ok (.getfield 104, 3) := by decide +kernel
theorem dX6_dugWithWell_15 : decode cX6_dugWithWell 15 = .ok (.if_icmp .lt 14, 3) := by decide +kernel
theorem dX6_dugWithWell_18 : decode cX6_dugWithWell 18 = .ok (.new 304, 3) := by decide +kernel
theorem dX6_dugWithWell_21 : decode cX6_dugWithWell 21 = .ok (.dup, 1) := by decide +kernel
theorem dX6_dugWithWell_22 : decode cX6_dugWithWell 22 = .ok (.ldc_w 320, 3) := by decide +kernel
theorem dX6_dugWithWell_25 : decode cX6_dugWithWell 25 = .ok (.invokespecial 308, 3) := by decide +kernel
theorem dX6_dugWithWell_28 : decode cX6_dugWithWell 28 = .ok (.athrow, 1) := by decide +kernel
theorem dX6_dugWithWell_29 : decode cX6_dugWithWell 29 = .ok (.aload_n 3, 1) := by decide +kernel
theorem dX6_dugWithWell_30 : decode cX6_dugWithWell 30 = .ok (.invokevirtual 309, 3) := by decide +kernel
theorem dX6_dugWithWell_33 : decode cX6_dugWithWell 33 = .ok (.ifCond .ne 14, 3) := by decide +kernel
theorem dX6_dugWithWell_36 : decode cX6_dugWithWell 36 = .ok (.new 313, 3) := by decide +kernel
theorem dX6_dugWithWell_39 : decode cX6_dugWithWell 39 = .ok (.dup, 1) := by decide +kernel
theorem dX6_dugWithWell_40 : decode cX6_dugWithWell 40 = .ok (.ldc_w 318, 3) := by decide +kernel
theorem dX6_dugWithWell_43 : decode cX6_dugWithWell 43 = .ok (.invokespecial 317, 3) := by decide +kernel
theorem dX6_dugWithWell_46 : decode cX6_dugWithWell 46 = .ok (.athrow, 1) := by decide +kernel
theorem dX6_dugWithWell_47 : decode cX6_dugWithWell 47 = .ok (.aload_n 3, 1) := by decide +kernel
theorem dX6_dugWithWell_48 : decode cX6_dugWithWell 48 = .ok (.areturn, 1) := by decide +kernel
theorem dX6_shareAt_0 : decode cX6_shareAt 0 = .ok (.iload_n 1, 1) := by decide +kernel
theorem dX6_shareAt_1 : decode cX6_shareAt 1 = .ok (.ifCond .lt 11, 3) := by decide +kernel
theorem dX6_shareAt_4 : decode cX6_shareAt 4 = .ok (.iload_n 1, 1) := by decide +kernel
theorem dX6_shareAt_5 : decode cX6_shareAt 5 = .ok (.aload_n 0, 1) := by decide +kernel
theorem dX6_shareAt_6 : decode cX6_shareAt 6 = .ok (.getfield 123, 3) := by decide +kernel
theorem dX6_shareAt_9 : decode cX6_shareAt 9 = .ok (.if_icmp .lt 14, 3) := by decide +kernel
theorem dX6_shareAt_12 : decode cX6_shareAt 12 = .ok (.new 304, 3) := by decide +kernel
theorem dX6_shareAt_15 : decode cX6_shareAt 15 = .ok (.dup, 1) := by decide +kernel
theorem dX6_shareAt_16 : decode cX6_shareAt 16 = .ok (.ldc_w 322, 3) := by decide +kernel
theorem dX6_shareAt_19 : decode cX6_shareAt 19 = .ok (.invokespecial 308, 3) := by decide +kernel
theorem dX6_shareAt_22 : decode cX6_shareAt 22 = .ok (.athrow, 1) := by decide +kernel
theorem dX6_shareAt_23 : decode cX6_shareAt 23 = .ok (.aload_n 0, 1) := by decide +kernel
theorem dX6_shareAt_24 : decode cX6_shareAt 24 = .ok (.getfield 44, 3) := by decide +kernel
theorem dX6_shareAt_27 : decode cX6_shareAt 27 = .ok (.iload_n 1, 1) := by decide +kernel
theorem dX6_shareAt_28 : decode cX6_shareAt 28 = .ok (.aaload, 1) := by decide +kernel
theorem dX6_shareAt_29 : decode cX6_shareAt 29 = .ok (.areturn, 1) := by decide +kernel
set_option maxRecDepth 20000 in
theorem ggX6_unletAt_X6_shareAt : GoodIn wsX6_unletAt wsX6_shareAt := goodIn_ca (goodIn_r _ [8, 9, 10, 11, 12, 19, 20, 21, 22, 23, 24, 25, 26, 27, 28, 29, 30, 31, 32, 33, 34] (by decide +kernel) (by decide +kernel)) (goodIn_sub (fun _ h => List.mem_cons_of_mem _ (List.mem_append_right _ h)) (by decide +kernel))
set_option maxRecDepth 20000 in
theorem gX6_unletAt_X6_shareAt : GoodIn wsX6_unletAt (wsV RX6 235 RX6 yX6_shareAt wsX6_shareAt) := goodIn_app (goodIn_of _ (by decide +kernel)) ggX6_unletAt_X6_shareAt
set_option maxRecDepth 20000 in
theorem ggX6_unletAt_X4_isLetFrom : GoodIn wsX6_unletAt wsX4_isLetFrom := goodIn_r _ [17, 18, 35, 36, 37, 38, 39, 40, 41] (by decide +kernel) (by decide +kernel)
set_option maxRecDepth 20000 in
theorem gX6_unletAt_X4_isLetFrom : GoodIn wsX6_unletAt (wsV RX6 238 RX4 yX4_isLetFrom wsX4_isLetFrom) := goodIn_app (goodIn_of _ (by decide +kernel)) ggX6_unletAt_X4_isLetFrom
theorem dX6_unletAt_0 : decode cX6_unletAt 0 = .ok (.aload_n 0, 1) := by decide +kernel
theorem dX6_unletAt_1 : decode cX6_unletAt 1 = .ok (.iload_n 1, 1) := by decide +kernel
theorem dX6_unletAt_2 : decode cX6_unletAt 2 = .ok (.invokevirtual 235, 3) := by decide +kernel
theorem dX6_unletAt_5 : decode cX6_unletAt 5 = .ok (.astore_n 2, 1) := by decide +kernel
theorem dX6_unletAt_6 : decode cX6_unletAt 6 = .ok (.aload_n 2, 1) := by decide +kernel
theorem dX6_unletAt_7 : decode cX6_unletAt 7 = .ok (.aload_n 0, 1) := by decide +kernel
theorem dX6_unletAt_8 : decode cX6_unletAt 8 = .ok (.getfield 208, 3) := by decide +kernel
theorem dX6_unletAt_11 : decode cX6_unletAt 11 = .ok (.invokevirtual 238, 3) := by decide +kernel
theorem dX6_unletAt_14 : decode cX6_unletAt 14 = .ok (.ifCond .eq 14, 3) := by decide +kernel
theorem dX6_unletAt_17 : decode cX6_unletAt 17 = .ok (.new 313, 3) := by decide +kernel
theorem dX6_unletAt_20 : decode cX6_unletAt 20 = .ok (.dup, 1) := by decide +kernel
theorem dX6_unletAt_21 : decode cX6_unletAt 21 = .ok (.ldc_w 324, 3) := by decide +kernel
theorem dX6_unletAt_24 : decode cX6_unletAt 24 = .ok (.invokespecial 317, 3) := by decide +kernel
theorem dX6_unletAt_27 : decode cX6_unletAt 27 = .ok (.athrow, 1) := by decide +kernel
theorem dX6_unletAt_28 : decode cX6_unletAt 28 = .ok (.aload_n 2, 1) := by decide +kernel
theorem dX6_unletAt_29 : decode cX6_unletAt 29 = .ok (.areturn, 1) := by decide +kernel
set_option maxRecDepth 20000 in
theorem ggX6_isAllowed_X0_isDug : GoodIn wsX6_isAllowed wsX0_isDug := goodIn_r _ [8, 9, 29, 30, 31, 32, 33, 34, 35, 36] (by decide +kernel) (by decide +kernel)
set_option maxRecDepth 20000 in
theorem gX6_isAllowed_X0_isDug : GoodIn wsX6_isAllowed (wsV RX6 309 RX0 yX0_isDug wsX0_isDug) := goodIn_app (goodIn_of _ (by decide +kernel)) ggX6_isAllowed_X0_isDug
set_option maxRecDepth 20000 in
theorem ggX6_isAllowed_X6_isClearOf : GoodIn wsX6_isAllowed wsX6_isClearOf := goodIn_r _ [14, 1, 15, 16, 17, 18, 19, 20, 13, 21, 22, 23, 24, 25, 26, 27, 28, 29, 30, 31, 32, 33, 34, 35, 36, 37, 38, 39, 40, 41, 42, 43, 44, 45, 46, 47, 48, 49, 50, 51, 52] (by decide +kernel) (by decide +kernel)
set_option maxRecDepth 20000 in
theorem gX6_isAllowed_X6_isClearOf : GoodIn wsX6_isAllowed (wsV RX6 326 RX6 yX6_isClearOf wsX6_isClearOf) := goodIn_app (goodIn_of _ (by decide +kernel)) ggX6_isAllowed_X6_isClearOf
theorem dX6_isAllowed_0 : decode cX6_isAllowed 0 = .ok (.aload_n 1, 1) := by decide +kernel
theorem dX6_isAllowed_1 : decode cX6_isAllowed 1 = .ok (.getfield 104, 3) := by decide +kernel
theorem dX6_isAllowed_4 : decode cX6_isAllowed 4 = .ok (.iconst 2, 1) := by decide +kernel
theorem dX6_isAllowed_5 : decode cX6_isAllowed 5 = .ok (.if_icmp .ge 5, 3) := by decide +kernel
theorem dX6_isAllowed_8 : decode cX6_isAllowed 8 = .ok (.iconst 0, 1) := by decide +kernel
theorem dX6_isAllowed_9 : decode cX6_isAllowed 9 = .ok (.ireturn, 1) := by decide +kernel
theorem dX6_isAllowed_10 : decode cX6_isAllowed 10 = .ok (.iconst 0, 1) := by decide +kernel
theorem dX6_isAllowed_11 : decode cX6_isAllowed 11 = .ok (.istore_n 2, 1) := by decide +kernel
theorem dX6_isAllowed_12 : decode cX6_isAllowed 12 = .ok (.iload_n 2, 1) := by decide +kernel
theorem dX6_isAllowed_13 : decode cX6_isAllowed 13 = .ok (.aload_n 0, 1) := by decide +kernel
theorem dX6_isAllowed_14 : decode cX6_isAllowed 14 = .ok (.getfield 86, 3) := by decide +kernel
theorem dX6_isAllowed_17 : decode cX6_isAllowed 17 = .ok (.if_icmp .ge 34, 3) := by decide +kernel
theorem dX6_isAllowed_20 : decode cX6_isAllowed 20 = .ok (.aload_n 0, 1) := by decide +kernel
theorem dX6_isAllowed_21 : decode cX6_isAllowed 21 = .ok (.getfield 31, 3) := by decide +kernel
theorem dX6_isAllowed_24 : decode cX6_isAllowed 24 = .ok (.iload_n 2, 1) := by decide +kernel
theorem dX6_isAllowed_25 : decode cX6_isAllowed 25 = .ok (.aaload, 1) := by decide +kernel
theorem dX6_isAllowed_26 : decode cX6_isAllowed 26 = .ok (.astore_n 3, 1) := by decide +kernel
theorem dX6_isAllowed_27 : decode cX6_isAllowed 27 = .ok (.aload_n 3, 1) := by decide +kernel
theorem dX6_isAllowed_28 : decode cX6_isAllowed 28 = .ok (.invokevirtual 309, 3) := by decide +kernel
theorem dX6_isAllowed_31 : decode cX6_isAllowed 31 = .ok (.ifCond .eq 14, 3) := by decide +kernel
theorem dX6_isAllowed_34 : decode cX6_isAllowed 34 = .ok (.aload_n 0, 1) := by decide +kernel
theorem dX6_isAllowed_35 : decode cX6_isAllowed 35 = .ok (.aload_n 1, 1) := by decide +kernel
theorem dX6_isAllowed_36 : decode cX6_isAllowed 36 = .ok (.aload_n 3, 1) := by decide +kernel
theorem dX6_isAllowed_37 : decode cX6_isAllowed 37 = .ok (.invokevirtual 326, 3) := by decide +kernel
theorem dX6_isAllowed_40 : decode cX6_isAllowed 40 = .ok (.ifCond .ne 5, 3) := by decide +kernel
theorem dX6_isAllowed_43 : decode cX6_isAllowed 43 = .ok (.iconst 0, 1) := by decide +kernel
theorem dX6_isAllowed_44 : decode cX6_isAllowed 44 = .ok (.ireturn, 1) := by decide +kernel
theorem dX6_isAllowed_45 : decode cX6_isAllowed 45 = .ok (.iinc 2 1, 3) := by decide +kernel
theorem dX6_isAllowed_48 : decode cX6_isAllowed 48 = .ok (.goto (-36), 3) := by decide +kernel
theorem dX6_isAllowed_51 : decode cX6_isAllowed 51 = .ok (.iconst 1, 1) := by decide +kernel
theorem dX6_isAllowed_52 : decode cX6_isAllowed 52 = .ok (.ireturn, 1) := by decide +kernel
set_option maxRecDepth 20000 in
theorem ggX6_isClearOf_X6_kingSteps : GoodIn wsX6_isClearOf wsX6_kingSteps := goodIn_r _ [9, 10, 11, 12, 13, 14, 15, 16] (by decide +kernel) (by decide +kernel)
set_option maxRecDepth 20000 in
theorem gX6_isClearOf_X6_kingSteps : GoodIn wsX6_isClearOf (va_wsS RX6 336 yX6_kingSteps wsX6_kingSteps) := goodIn_app (goodIn_of _ (by decide +kernel)) ggX6_isClearOf_X6_kingSteps
theorem dX6_isClearOf_0 : decode cX6_isClearOf 0 = .ok (.iconst 0, 1) := by decide +kernel
theorem dX6_isClearOf_1 : decode cX6_isClearOf 1 = .ok (.istore_n 3, 1) := by decide +kernel
theorem dX6_isClearOf_2 : decode cX6_isClearOf 2 = .ok (.iload_n 3, 1) := by decide +kernel
theorem dX6_isClearOf_3 : decode cX6_isClearOf 3 = .ok (.aload_n 1, 1) := by decide +kernel
theorem dX6_isClearOf_4 : decode cX6_isClearOf 4 = .ok (.getfield 104, 3) := by decide +kernel
theorem dX6_isClearOf_7 : decode cX6_isClearOf 7 = .ok (.if_icmp .ge 94, 3) := by decide +kernel
theorem dX6_isClearOf_10 : decode cX6_isClearOf 10 = .ok (.iconst 0, 1) := by decide +kernel
theorem dX6_isClearOf_11 : decode cX6_isClearOf 11 = .ok (.istore 4, 2) := by decide +kernel
theorem dX6_isClearOf_13 : decode cX6_isClearOf 13 = .ok (.iload 4, 2) := by decide +kernel
theorem dX6_isClearOf_15 : decode cX6_isClearOf 15 = .ok (.aload_n 2, 1) := by decide +kernel
theorem dX6_isClearOf_16 : decode cX6_isClearOf 16 = .ok (.getfield 104, 3) := by decide +kernel
theorem dX6_isClearOf_19 : decode cX6_isClearOf 19 = .ok (.if_icmp .ge 76, 3) := by decide +kernel
theorem dX6_isClearOf_22 : decode cX6_isClearOf 22 = .ok (.aload_n 1, 1) := by decide +kernel
theorem dX6_isClearOf_23 : decode cX6_isClearOf 23 = .ok (.getfield 330, 3) := by decide +kernel
theorem dX6_isClearOf_26 : decode cX6_isClearOf 26 = .ok (.iload_n 3, 1) := by decide +kernel
theorem dX6_isClearOf_27 : decode cX6_isClearOf 27 = .ok (.iaload, 1) := by decide +kernel
theorem dX6_isClearOf_28 : decode cX6_isClearOf 28 = .ok (.aload_n 1, 1) := by decide +kernel
theorem dX6_isClearOf_29 : decode cX6_isClearOf 29 = .ok (.getfield 333, 3) := by decide +kernel
theorem dX6_isClearOf_32 : decode cX6_isClearOf 32 = .ok (.iload_n 3, 1) := by decide +kernel
theorem dX6_isClearOf_33 : decode cX6_isClearOf 33 = .ok (.iaload, 1) := by decide +kernel
theorem dX6_isClearOf_34 : decode cX6_isClearOf 34 = .ok (.aload_n 2, 1) := by decide +kernel
theorem dX6_isClearOf_35 : decode cX6_isClearOf 35 = .ok (.getfield 330, 3) := by decide +kernel
theorem dX6_isClearOf_38 : decode cX6_isClearOf 38 = .ok (.iload 4, 2) := by decide +kernel
theorem dX6_isClearOf_40 : decode cX6_isClearOf 40 = .ok (.iaload, 1) := by decide +kernel
theorem dX6_isClearOf_41 : decode cX6_isClearOf 41 = .ok (.aload_n 2, 1) := by decide +kernel
theorem dX6_isClearOf_42 : decode cX6_isClearOf 42 = .ok (.getfield 333, 3) := by decide +kernel
theorem dX6_isClearOf_45 : decode cX6_isClearOf 45 = .ok (.iload 4, 2) := by decide +kernel
theorem dX6_isClearOf_47 : decode cX6_isClearOf 47 = .ok (.iaload, 1) := by decide +kernel
theorem dX6_isClearOf_48 : decode cX6_isClearOf 48 = .ok (.invokestatic 336, 3) := by decide +kernel
theorem dX6_isClearOf_51 : decode cX6_isClearOf 51 = .ok (.istore 5, 2) := by decide +kernel
theorem dX6_isClearOf_53 : decode cX6_isClearOf 53 = .ok (.iload 5, 2) := by decide +kernel
theorem dX6_isClearOf_55 : decode cX6_isClearOf 55 = .ok (.aload_n 0, 1) := by decide +kernel
theorem dX6_isClearOf_56 : decode cX6_isClearOf 56 = .ok (.getfield 21, 3) := by decide +kernel
theorem dX6_isClearOf_59 : decode cX6_isClearOf 59 = .ok (.iconst 0, 1) := by decide +kernel
theorem dX6_isClearOf_60 : decode cX6_isClearOf 60 = .ok (.iaload, 1) := by decide +kernel
theorem dX6_isClearOf_61 : decode cX6_isClearOf 61 = .ok (.if_icmp .ge 28, 3) := by decide +kernel
theorem dX6_isClearOf_64 : decode cX6_isClearOf 64 = .ok (.aload_n 1, 1) := by decide +kernel
theorem dX6_isClearOf_65 : decode cX6_isClearOf 65 = .ok (.getfield 340, 3) := by decide +kernel
theorem dX6_isClearOf_68 : decode cX6_isClearOf 68 = .ok (.iload_n 3, 1) := by decide +kernel
theorem dX6_isClearOf_69 : decode cX6_isClearOf 69 = .ok (.iaload, 1) := by decide +kernel
theorem dX6_isClearOf_70 : decode cX6_isClearOf 70 = .ok (.aload_n 2, 1) := by decide +kernel
theorem dX6_isClearOf_71 : decode cX6_isClearOf 71 = .ok (.getfield 340, 3) := by decide +kernel
theorem dX6_isClearOf_74 : decode cX6_isClearOf 74 = .ok (.iload 4, 2) := by decide +kernel
theorem dX6_isClearOf_76 : decode cX6_isClearOf 76 = .ok (.iaload, 1) := by decide +kernel
theorem dX6_isClearOf_77 : decode cX6_isClearOf 77 = .ok (.isub, 1) := by decide +kernel
theorem dX6_isClearOf_78 : decode cX6_isClearOf 78 = .ok (.aload_n 0, 1) := by decide +kernel
theorem dX6_isClearOf_79 : decode cX6_isClearOf 79 = .ok (.getfield 21, 3) := by decide +kernel
theorem dX6_isClearOf_82 : decode cX6_isClearOf 82 = .ok (.iconst 1, 1) := by decide +kernel
theorem dX6_isClearOf_83 : decode cX6_isClearOf 83 = .ok (.iaload, 1) := by decide +kernel
theorem dX6_isClearOf_84 : decode cX6_isClearOf 84 = .ok (.if_icmp .ge 5, 3) := by decide +kernel
theorem dX6_isClearOf_87 : decode cX6_isClearOf 87 = .ok (.iconst 0, 1) := by decide +kernel
theorem dX6_isClearOf_88 : decode cX6_isClearOf 88 = .ok (.ireturn, 1) := by decide +kernel
theorem dX6_isClearOf_89 : decode cX6_isClearOf 89 = .ok (.iinc 4 1, 3) := by decide +kernel
theorem dX6_isClearOf_92 : decode cX6_isClearOf 92 = .ok (.goto (-79), 3) := by decide +kernel
theorem dX6_isClearOf_95 : decode cX6_isClearOf 95 = .ok (.iinc 3 1, 3) := by decide +kernel
theorem dX6_isClearOf_98 : decode cX6_isClearOf 98 = .ok (.goto (-96), 3) := by decide +kernel
theorem dX6_isClearOf_101 : decode cX6_isClearOf 101 = .ok (.iconst 1, 1) := by decide +kernel
theorem dX6_isClearOf_102 : decode cX6_isClearOf 102 = .ok (.ireturn, 1) := by decide +kernel
set_option maxRecDepth 20000 in
theorem ggX6_drawAt_X0_runningWells : GoodIn wsX6_drawAt wsX0_runningWells := goodIn_r _ [13, 14, 15, 23, 24, 25, 26, 27, 28, 29, 30] (by decide +kernel) (by decide +kernel)
set_option maxRecDepth 20000 in
theorem gX6_drawAt_X0_runningWells : GoodIn wsX6_drawAt (wsV RX6 162 RX0 yX0_runningWells wsX0_runningWells) := goodIn_app (goodIn_of _ (by decide +kernel)) ggX6_drawAt_X0_runningWells
set_option maxRecDepth 20000 in
theorem ggX6_drawAt_X6_kingSteps : GoodIn wsX6_drawAt wsX6_kingSteps := goodIn_r _ [19, 20, 21, 5, 22, 3, 4, 6] (by decide +kernel) (by decide +kernel)
set_option maxRecDepth 20000 in
theorem gX6_drawAt_X6_kingSteps : GoodIn wsX6_drawAt (va_wsS RX6 336 yX6_kingSteps wsX6_kingSteps) := goodIn_app (goodIn_of _ (by decide +kernel)) ggX6_drawAt_X6_kingSteps
theorem dX6_drawAt_0 : decode cX6_drawAt 0 = .ok (.aload_n 1, 1) := by decide +kernel
theorem dX6_drawAt_1 : decode cX6_drawAt 1 = .ok (.invokevirtual 162, 3) := by decide +kernel
theorem dX6_drawAt_4 : decode cX6_drawAt 4 = .ok (.istore 4, 2) := by decide +kernel
theorem dX6_drawAt_6 : decode cX6_drawAt 6 = .ok (.iconst 0, 1) := by decide +kernel
theorem dX6_drawAt_7 : decode cX6_drawAt 7 = .ok (.istore 5, 2) := by decide +kernel
theorem dX6_drawAt_9 : decode cX6_drawAt 9 = .ok (.iconst 0, 1) := by decide +kernel
theorem dX6_drawAt_10 : decode cX6_drawAt 10 = .ok (.istore 6, 2) := by decide +kernel
theorem dX6_drawAt_12 : decode cX6_drawAt 12 = .ok (.iload 6, 2) := by decide +kernel
theorem dX6_drawAt_14 : decode cX6_drawAt 14 = .ok (.iload 4, 2) := by decide +kernel
theorem dX6_drawAt_16 : decode cX6_drawAt 16 = .ok (.if_icmp .ge 38, 3) := by decide +kernel
theorem dX6_drawAt_19 : decode cX6_drawAt 19 = .ok (.iload 5, 2) := by decide +kernel
theorem dX6_drawAt_21 : decode cX6_drawAt 21 = .ok (.bipush 30, 2) := by decide +kernel
theorem dX6_drawAt_23 : decode cX6_drawAt 23 = .ok (.iload_n 2, 1) := by decide +kernel
theorem dX6_drawAt_24 : decode cX6_drawAt 24 = .ok (.iload_n 3, 1) := by decide +kernel
theorem dX6_drawAt_25 : decode cX6_drawAt 25 = .ok (.aload_n 1, 1) := by decide +kernel
theorem dX6_drawAt_26 : decode cX6_drawAt 26 = .ok (.getfield 330, 3) := by decide +kernel
theorem dX6_drawAt_29 : decode cX6_drawAt 29 = .ok (.iload 6, 2) := by decide +kernel
theorem dX6_drawAt_31 : decode cX6_drawAt 31 = .ok (.iaload, 1) := by decide +kernel
theorem dX6_drawAt_32 : decode cX6_drawAt 32 = .ok (.aload_n 1, 1) := by decide +kernel
theorem dX6_drawAt_33 : decode cX6_drawAt 33 = .ok (.getfield 333, 3) := by decide +kernel
theorem dX6_drawAt_36 : decode cX6_drawAt 36 = .ok (.iload 6, 2) := by decide +kernel
theorem dX6_drawAt_38 : decode cX6_drawAt 38 = .ok (.iaload, 1) := by decide +kernel
theorem dX6_drawAt_39 : decode cX6_drawAt 39 = .ok (.invokestatic 336, 3) := by decide +kernel
theorem dX6_drawAt_42 : decode cX6_drawAt 42 = .ok (.isub, 1) := by decide +kernel
theorem dX6_drawAt_43 : decode cX6_drawAt 43 = .ok (.invokestatic 301, 3) := by decide +kernel
theorem dX6_drawAt_46 : decode cX6_drawAt 46 = .ok (.istore 5, 2) := by decide +kernel
theorem dX6_drawAt_48 : decode cX6_drawAt 48 = .ok (.iinc 6 1, 3) := by decide +kernel
theorem dX6_drawAt_51 : decode cX6_drawAt 51 = .ok (.goto (-39), 3) := by decide +kernel
theorem dX6_drawAt_54 : decode cX6_drawAt 54 = .ok (.aload_n 0, 1) := by decide +kernel
theorem dX6_drawAt_55 : decode cX6_drawAt 55 = .ok (.getfield 129, 3) := by decide +kernel
theorem dX6_drawAt_58 : decode cX6_drawAt 58 = .ok (.aload_n 1, 1) := by decide +kernel
theorem dX6_drawAt_59 : decode cX6_drawAt 59 = .ok (.getfield 132, 3) := by decide +kernel
theorem dX6_drawAt_62 : decode cX6_drawAt 62 = .ok (.isub, 1) := by decide +kernel
theorem dX6_drawAt_63 : decode cX6_drawAt 63 = .ok (.istore 6, 2) := by decide +kernel
theorem dX6_drawAt_65 : decode cX6_drawAt 65 = .ok (.iload 6, 2) := by decide +kernel
theorem dX6_drawAt_67 : decode cX6_drawAt 67 = .ok (.iconst 5, 1) := by decide +kernel
theorem dX6_drawAt_68 : decode cX6_drawAt 68 = .ok (.if_icmp .ge 13, 3) := by decide +kernel
theorem dX6_drawAt_71 : decode cX6_drawAt 71 = .ok (.iload 5, 2) := by decide +kernel
theorem dX6_drawAt_73 : decode cX6_drawAt 73 = .ok (.iload 6, 2) := by decide +kernel
theorem dX6_drawAt_75 : decode cX6_drawAt 75 = .ok (.imul, 1) := by decide +kernel
theorem dX6_drawAt_76 : decode cX6_drawAt 76 = .ok (.iconst 5, 1) := by decide +kernel
theorem dX6_drawAt_77 : decode cX6_drawAt 77 = .ok (.idiv, 1) := by decide +kernel
theorem dX6_drawAt_78 : decode cX6_drawAt 78 = .ok (.goto 5, 3) := by decide +kernel
theorem dX6_drawAt_81 : decode cX6_drawAt 81 = .ok (.iload 5, 2) := by decide +kernel
theorem dX6_drawAt_83 : decode cX6_drawAt 83 = .ok (.ireturn, 1) := by decide +kernel
set_option maxRecDepth 20000 in
theorem ggX6_seepAt_X0_isDug : GoodIn wsX6_seepAt wsX0_isDug := goodIn_r _ [20, 21, 57, 58, 59, 60, 61, 62, 63, 64] (by decide +kernel) (by decide +kernel)
set_option maxRecDepth 20000 in
theorem gX6_seepAt_X0_isDug : GoodIn wsX6_seepAt (wsV RX6 309 RX0 yX0_isDug wsX0_isDug) := goodIn_app (goodIn_of _ (by decide +kernel)) ggX6_seepAt_X0_isDug
set_option maxRecDepth 20000 in
theorem ggX6_seepAt_X6_drawAt : GoodIn wsX6_seepAt wsX6_drawAt := goodIn_r _ [26, 3, 7, 13, 14, 11, 15, 27, 28, 29, 30, 31, 19, 32, 33, 34, 35, 36, 25, 37, 38, 39, 40, 57, 58, 59, 60, 61, 62, 63, 64, 41, 42, 43, 44, 45, 46, 47, 48, 49, 50, 51, 52, 53, 54, 55, 56] (by decide +kernel) (by decide +kernel)
set_option maxRecDepth 20000 in
theorem gX6_seepAt_X6_drawAt : GoodIn wsX6_seepAt (wsV RX6 343 RX6 yX6_drawAt wsX6_drawAt) := goodIn_app (goodIn_of _ (by decide +kernel)) ggX6_seepAt_X6_drawAt
theorem dX6_seepAt_0 : decode cX6_seepAt 0 = .ok (.aload_n 0, 1) := by decide +kernel
theorem dX6_seepAt_1 : decode cX6_seepAt 1 = .ok (.getfield 36, 3) := by decide +kernel
theorem dX6_seepAt_4 : decode cX6_seepAt 4 = .ok (.aload_n 0, 1) := by decide +kernel
theorem dX6_seepAt_5 : decode cX6_seepAt 5 = .ok (.getfield 39, 3) := by decide +kernel
theorem dX6_seepAt_8 : decode cX6_seepAt 8 = .ok (.aload_n 1, 1) := by decide +kernel
theorem dX6_seepAt_9 : decode cX6_seepAt 9 = .ok (.getfield 330, 3) := by decide +kernel
theorem dX6_seepAt_12 : decode cX6_seepAt 12 = .ok (.iload_n 2, 1) := by decide +kernel
theorem dX6_seepAt_13 : decode cX6_seepAt 13 = .ok (.iaload, 1) := by decide +kernel
theorem dX6_seepAt_14 : decode cX6_seepAt 14 = .ok (.imul, 1) := by decide +kernel
theorem dX6_seepAt_15 : decode cX6_seepAt 15 = .ok (.iadd, 1) := by decide +kernel
theorem dX6_seepAt_16 : decode cX6_seepAt 16 = .ok (.istore 4, 2) := by decide +kernel
theorem dX6_seepAt_18 : decode cX6_seepAt 18 = .ok (.iconst 0, 1) := by decide +kernel
theorem dX6_seepAt_19 : decode cX6_seepAt 19 = .ok (.istore 5, 2) := by decide +kernel
theorem dX6_seepAt_21 : decode cX6_seepAt 21 = .ok (.iload 5, 2) := by decide +kernel
theorem dX6_seepAt_23 : decode cX6_seepAt 23 = .ok (.aload_n 0, 1) := by decide +kernel
theorem dX6_seepAt_24 : decode cX6_seepAt 24 = .ok (.getfield 86, 3) := by decide +kernel
theorem dX6_seepAt_27 : decode cX6_seepAt 27 = .ok (.if_icmp .ge 64, 3) := by decide +kernel
theorem dX6_seepAt_30 : decode cX6_seepAt 30 = .ok (.aload_n 0, 1) := by decide +kernel
theorem dX6_seepAt_31 : decode cX6_seepAt 31 = .ok (.getfield 31, 3) := by decide +kernel
theorem dX6_seepAt_34 : decode cX6_seepAt 34 = .ok (.iload 5, 2) := by decide +kernel
theorem dX6_seepAt_36 : decode cX6_seepAt 36 = .ok (.aaload, 1) := by decide +kernel
theorem dX6_seepAt_37 : decode cX6_seepAt 37 = .ok (.astore 6, 2) := by decide +kernel
theorem dX6_seepAt_39 : decode cX6_seepAt 39 = .ok (.aload 6, 2) := by decide +kernel
theorem dX6_seepAt_41 : decode cX6_seepAt 41 = .ok (.aload_n 1, 1) := by decide +kernel
theorem dX6_seepAt_42 : decode cX6_seepAt 42 = .ok (.if_acmp .eq 43, 3) := by decide +kernel
theorem dX6_seepAt_45 : decode cX6_seepAt 45 = .ok (.aload 6, 2) := by decide +kernel
theorem dX6_seepAt_47 : decode cX6_seepAt 47 = .ok (.invokevirtual 309, 3) := by decide +kernel
theorem dX6_seepAt_50 : decode cX6_seepAt 50 = .ok (.ifCond .eq 35, 3) := by decide +kernel
theorem dX6_seepAt_53 : decode cX6_seepAt 53 = .ok (.aload 6, 2) := by decide +kernel
theorem dX6_seepAt_55 : decode cX6_seepAt 55 = .ok (.getfield 138, 3) := by decide +kernel
theorem dX6_seepAt_58 : decode cX6_seepAt 58 = .ok (.iload_n 3, 1) := by decide +kernel
theorem dX6_seepAt_59 : decode cX6_seepAt 59 = .ok (.if_icmp .gt 26, 3) := by decide +kernel
theorem dX6_seepAt_62 : decode cX6_seepAt 62 = .ok (.iload 4, 2) := by decide +kernel
theorem dX6_seepAt_64 : decode cX6_seepAt 64 = .ok (.aload_n 0, 1) := by decide +kernel
theorem dX6_seepAt_65 : decode cX6_seepAt 65 = .ok (.aload 6, 2) := by decide +kernel
theorem dX6_seepAt_67 : decode cX6_seepAt 67 = .ok (.aload_n 1, 1) := by decide +kernel
theorem dX6_seepAt_68 : decode cX6_seepAt 68 = .ok (.getfield 330, 3) := by decide +kernel
theorem dX6_seepAt_71 : decode cX6_seepAt 71 = .ok (.iload_n 2, 1) := by decide +kernel
theorem dX6_seepAt_72 : decode cX6_seepAt 72 = .ok (.iaload, 1) := by decide +kernel
theorem dX6_seepAt_73 : decode cX6_seepAt 73 = .ok (.aload_n 1, 1) := by decide +kernel
theorem dX6_seepAt_74 : decode cX6_seepAt 74 = .ok (.getfield 333, 3) := by decide +kernel
theorem dX6_seepAt_77 : decode cX6_seepAt 77 = .ok (.iload_n 2, 1) := by decide +kernel
theorem dX6_seepAt_78 : decode cX6_seepAt 78 = .ok (.iaload, 1) := by decide +kernel
theorem dX6_seepAt_79 : decode cX6_seepAt 79 = .ok (.invokevirtual 343, 3) := by decide +kernel
theorem dX6_seepAt_82 : decode cX6_seepAt 82 = .ok (.isub, 1) := by decide +kernel
theorem dX6_seepAt_83 : decode cX6_seepAt 83 = .ok (.istore 4, 2) := by decide +kernel
theorem dX6_seepAt_85 : decode cX6_seepAt 85 = .ok (.iinc 5 1, 3) := by decide +kernel
theorem dX6_seepAt_88 : decode cX6_seepAt 88 = .ok (.goto (-67), 3) := by decide +kernel
theorem dX6_seepAt_91 : decode cX6_seepAt 91 = .ok (.iconst 0, 1) := by decide +kernel
theorem dX6_seepAt_92 : decode cX6_seepAt 92 = .ok (.bipush 50, 2) := by decide +kernel
theorem dX6_seepAt_94 : decode cX6_seepAt 94 = .ok (.iload 4, 2) := by decide +kernel
theorem dX6_seepAt_96 : decode cX6_seepAt 96 = .ok (.aload_n 1, 1) := by decide +kernel
theorem dX6_seepAt_97 : decode cX6_seepAt 97 = .ok (.getfield 340, 3) := by decide +kernel
theorem dX6_seepAt_100 : decode cX6_seepAt 100 = .ok (.iload_n 2, 1) := by decide +kernel
theorem dX6_seepAt_101 : decode cX6_seepAt 101 = .ok (.iaload, 1) := by decide +kernel
theorem dX6_seepAt_102 : decode cX6_seepAt 102 = .ok (.isub, 1) := by decide +kernel
theorem dX6_seepAt_103 : decode cX6_seepAt 103 = .ok (.bipush 10, 2) := by decide +kernel
theorem dX6_seepAt_105 : decode cX6_seepAt 105 = .ok (.idiv, 1) := by decide +kernel
theorem dX6_seepAt_106 : decode cX6_seepAt 106 = .ok (.invokestatic 346, 3) := by decide +kernel
theorem dX6_seepAt_109 : decode cX6_seepAt 109 = .ok (.invokestatic 301, 3) := by decide +kernel
theorem dX6_seepAt_112 : decode cX6_seepAt 112 = .ok (.ireturn, 1) := by decide +kernel
set_option maxRecDepth 20000 in
theorem ggX6_flowOf_X0_runningWells : GoodIn wsX6_flowOf wsX0_runningWells := goodIn_r _ [5, 6, 7, 50, 51, 52, 53, 54, 55, 56, 57] (by decide +kernel) (by decide +kernel)
set_option maxRecDepth 20000 in
theorem gX6_flowOf_X0_runningWells : GoodIn wsX6_flowOf (wsV RX6 162 RX0 yX0_runningWells wsX0_runningWells) := goodIn_app (goodIn_of _ (by decide +kernel)) ggX6_flowOf_X0_runningWells
set_option maxRecDepth 20000 in
theorem ggX6_flowOf_X6_seepAt : GoodIn wsX6_flowOf wsX6_seepAt := goodIn_r _ [12, 13, 14, 15, 16, 17, 18, 19, 20, 21, 22, 23, 24, 25, 26, 27, 28, 29, 30, 4, 31, 32, 33, 34, 35, 11, 36, 37, 38, 1, 2, 3, 5, 6, 7, 39, 40, 41, 42, 43, 44, 58, 59, 60, 61, 62, 63, 64, 65, 66, 67, 68, 69, 70, 71, 72, 73, 50, 51, 52, 53, 54, 55, 56, 57] (by decide +kernel) (by decide +kernel)
set_option maxRecDepth 20000 in
theorem gX6_flowOf_X6_seepAt : GoodIn wsX6_flowOf (wsV RX6 165 RX6 yX6_seepAt wsX6_seepAt) := goodIn_app (goodIn_of _ (by decide +kernel)) ggX6_flowOf_X6_seepAt
set_option maxRecDepth 20000 in
theorem ggX6_flowOf_X0_leaksBelow : GoodIn wsX6_flowOf wsX0_leaksBelow := goodIn_r _ [48, 6, 49, 50, 51, 52, 53, 54, 55, 56, 57] (by decide +kernel) (by decide +kernel)
set_option maxRecDepth 20000 in
theorem gX6_flowOf_X0_leaksBelow : GoodIn wsX6_flowOf (wsV RX6 349 RX0 yX0_leaksBelow wsX0_leaksBelow) := goodIn_app (goodIn_of _ (by decide +kernel)) ggX6_flowOf_X0_leaksBelow
theorem dX6_flowOf_0 : decode cX6_flowOf 0 = .ok (.iconst 0, 1) := by decide +kernel
theorem dX6_flowOf_1 : decode cX6_flowOf 1 = .ok (.istore_n 3, 1) := by decide +kernel
theorem dX6_flowOf_2 : decode cX6_flowOf 2 = .ok (.aload_n 1, 1) := by decide +kernel
theorem dX6_flowOf_3 : decode cX6_flowOf 3 = .ok (.invokevirtual 162, 3) := by decide +kernel
theorem dX6_flowOf_6 : decode cX6_flowOf 6 = .ok (.iconst 1, 1) := by decide +kernel
theorem dX6_flowOf_7 : decode cX6_flowOf 7 = .ok (.isub, 1) := by decide +kernel
theorem dX6_flowOf_8 : decode cX6_flowOf 8 = .ok (.istore 4, 2) := by decide +kernel
theorem dX6_flowOf_10 : decode cX6_flowOf 10 = .ok (.iload 4, 2) := by decide +kernel
theorem dX6_flowOf_12 : decode cX6_flowOf 12 = .ok (.ifCond .lt 41, 3) := by decide +kernel
theorem dX6_flowOf_15 : decode cX6_flowOf 15 = .ok (.iload_n 3, 1) := by decide +kernel
theorem dX6_flowOf_16 : decode cX6_flowOf 16 = .ok (.aload_n 0, 1) := by decide +kernel
theorem dX6_flowOf_17 : decode cX6_flowOf 17 = .ok (.aload_n 1, 1) := by decide +kernel
theorem dX6_flowOf_18 : decode cX6_flowOf 18 = .ok (.iload 4, 2) := by decide +kernel
theorem dX6_flowOf_20 : decode cX6_flowOf 20 = .ok (.iload_n 2, 1) := by decide +kernel
theorem dX6_flowOf_21 : decode cX6_flowOf 21 = .ok (.invokevirtual 165, 3) := by decide +kernel
theorem dX6_flowOf_24 : decode cX6_flowOf 24 = .ok (.iadd, 1) := by decide +kernel
theorem dX6_flowOf_25 : decode cX6_flowOf 25 = .ok (.istore_n 3, 1) := by decide +kernel
theorem dX6_flowOf_26 : decode cX6_flowOf 26 = .ok (.aload_n 1, 1) := by decide +kernel
theorem dX6_flowOf_27 : decode cX6_flowOf 27 = .ok (.iload 4, 2) := by decide +kernel
theorem dX6_flowOf_29 : decode cX6_flowOf 29 = .ok (.invokevirtual 349, 3) := by decide +kernel
theorem dX6_flowOf_32 : decode cX6_flowOf 32 = .ok (.ifCond .eq 15, 3) := by decide +kernel
theorem dX6_flowOf_35 : decode cX6_flowOf 35 = .ok (.iload_n 3, 1) := by decide +kernel
theorem dX6_flowOf_36 : decode cX6_flowOf 36 = .ok (.iload_n 3, 1) := by decide +kernel
theorem dX6_flowOf_37 : decode cX6_flowOf 37 = .ok (.bipush 100, 2) := by decide +kernel
theorem dX6_flowOf_39 : decode cX6_flowOf 39 = .ok (.iadd, 1) := by decide +kernel
theorem dX6_flowOf_40 : decode cX6_flowOf 40 = .ok (.iconst 1, 1) := by decide +kernel
theorem dX6_flowOf_41 : decode cX6_flowOf 41 = .ok (.isub, 1) := by decide +kernel
theorem dX6_flowOf_42 : decode cX6_flowOf 42 = .ok (.bipush 100, 2) := by decide +kernel
theorem dX6_flowOf_44 : decode cX6_flowOf 44 = .ok (.idiv, 1) := by decide +kernel
theorem dX6_flowOf_45 : decode cX6_flowOf 45 = .ok (.isub, 1) := by decide +kernel
theorem dX6_flowOf_46 : decode cX6_flowOf 46 = .ok (.istore_n 3, 1) := by decide +kernel
theorem dX6_flowOf_47 : decode cX6_flowOf 47 = .ok (.iinc 4 (-1), 3) := by decide +kernel
theorem dX6_flowOf_50 : decode cX6_flowOf 50 = .ok (.goto (-40), 3) := by decide +kernel
theorem dX6_flowOf_53 : decode cX6_flowOf 53 = .ok (.iload_n 3, 1) := by decide +kernel
theorem dX6_flowOf_54 : decode cX6_flowOf 54 = .ok (.ireturn, 1) := by decide +kernel
set_option maxRecDepth 20000 in
theorem ggX6_flowOfAll_X0_isDug : GoodIn wsX6_flowOfAll wsX0_isDug := goodIn_r _ [8, 9, 71, 72, 73, 74, 75, 76, 77, 78] (by decide +kernel) (by decide +kernel)
set_option maxRecDepth 20000 in
theorem gX6_flowOfAll_X0_isDug : GoodIn wsX6_flowOfAll (wsV RX6 309 RX0 yX0_isDug wsX0_isDug) := goodIn_app (goodIn_of _ (by decide +kernel)) ggX6_flowOfAll_X0_isDug
set_option maxRecDepth 20000 in
theorem ggX6_flowOfAll_X6_flowOf : GoodIn wsX6_flowOfAll wsX6_flowOf := goodIn_r _ [14, 15, 16, 17, 7, 18, 19, 20, 21, 22, 23, 13, 24, 25, 26, 27, 1, 2, 28, 29, 30, 31, 32, 33, 34, 35, 36, 37, 4, 5, 6, 8, 9, 38, 39, 40, 41, 42, 43, 44, 45, 46, 47, 48, 49, 50, 51, 52, 53, 54, 71, 72, 73, 74, 75, 76, 77, 78, 55, 56, 57, 58, 59, 60, 61, 62, 63, 64, 65, 66, 67, 68, 69, 70] (by decide +kernel) (by decide +kernel)
set_option maxRecDepth 20000 in
theorem gX6_flowOfAll_X6_flowOf : GoodIn wsX6_flowOfAll (wsV RX6 158 RX6 yX6_flowOf wsX6_flowOf) := goodIn_app (goodIn_of _ (by decide +kernel)) ggX6_flowOfAll_X6_flowOf
theorem dX6_flowOfAll_0 : decode cX6_flowOfAll 0 = .ok (.iconst 0, 1) := by decide +kernel
theorem dX6_flowOfAll_1 : decode cX6_flowOfAll 1 = .ok (.istore_n 1, 1) := by decide +kernel
theorem dX6_flowOfAll_2 : decode cX6_flowOfAll 2 = .ok (.iconst 0, 1) := by decide +kernel
theorem dX6_flowOfAll_3 : decode cX6_flowOfAll 3 = .ok (.istore_n 2, 1) := by decide +kernel
theorem dX6_flowOfAll_4 : decode cX6_flowOfAll 4 = .ok (.iload_n 2, 1) := by decide +kernel
theorem dX6_flowOfAll_5 : decode cX6_flowOfAll 5 = .ok (.aload_n 0, 1) := by decide +kernel
theorem dX6_flowOfAll_6 : decode cX6_flowOfAll 6 = .ok (.getfield 86, 3) := by decide +kernel
theorem dX6_flowOfAll_9 : decode cX6_flowOfAll 9 = .ok (.if_icmp .ge 38, 3) := by decide +kernel
theorem dX6_flowOfAll_12 : decode cX6_flowOfAll 12 = .ok (.aload_n 0, 1) := by decide +kernel
theorem dX6_flowOfAll_13 : decode cX6_flowOfAll 13 = .ok (.getfield 31, 3) := by decide +kernel
theorem dX6_flowOfAll_16 : decode cX6_flowOfAll 16 = .ok (.iload_n 2, 1) := by decide +kernel
theorem dX6_flowOfAll_17 : decode cX6_flowOfAll 17 = .ok (.aaload, 1) := by decide +kernel
theorem dX6_flowOfAll_18 : decode cX6_flowOfAll 18 = .ok (.invokevirtual 309, 3) := by decide +kernel
theorem dX6_flowOfAll_21 : decode cX6_flowOfAll 21 = .ok (.ifCond .eq 20, 3) := by decide +kernel
theorem dX6_flowOfAll_24 : decode cX6_flowOfAll 24 = .ok (.iload_n 1, 1) := by decide +kernel
theorem dX6_flowOfAll_25 : decode cX6_flowOfAll 25 = .ok (.aload_n 0, 1) := by decide +kernel
theorem dX6_flowOfAll_26 : decode cX6_flowOfAll 26 = .ok (.aload_n 0, 1) := by decide +kernel
theorem dX6_flowOfAll_27 : decode cX6_flowOfAll 27 = .ok (.getfield 31, 3) := by decide +kernel
theorem dX6_flowOfAll_30 : decode cX6_flowOfAll 30 = .ok (.iload_n 2, 1) := by decide +kernel
theorem dX6_flowOfAll_31 : decode cX6_flowOfAll 31 = .ok (.aaload, 1) := by decide +kernel
theorem dX6_flowOfAll_32 : decode cX6_flowOfAll 32 = .ok (.aload_n 0, 1) := by decide +kernel
theorem dX6_flowOfAll_33 : decode cX6_flowOfAll 33 = .ok (.getfield 135, 3) := by decide +kernel
theorem dX6_flowOfAll_36 : decode cX6_flowOfAll 36 = .ok (.invokevirtual 158, 3) := by decide +kernel
theorem dX6_flowOfAll_39 : decode cX6_flowOfAll 39 = .ok (.iadd, 1) := by decide +kernel
theorem dX6_flowOfAll_40 : decode cX6_flowOfAll 40 = .ok (.istore_n 1, 1) := by decide +kernel
theorem dX6_flowOfAll_41 : decode cX6_flowOfAll 41 = .ok (.iinc 2 1, 3) := by decide +kernel
theorem dX6_flowOfAll_44 : decode cX6_flowOfAll 44 = .ok (.goto (-40), 3) := by decide +kernel
theorem dX6_flowOfAll_47 : decode cX6_flowOfAll 47 = .ok (.iload_n 1, 1) := by decide +kernel
theorem dX6_flowOfAll_48 : decode cX6_flowOfAll 48 = .ok (.ireturn, 1) := by decide +kernel
set_option maxRecDepth 20000 in
theorem ggX6_addShare_X4_become : GoodIn wsX6_addShare wsX4_become := goodIn_r _ [7, 8, 9, 10, 11, 12, 13, 14, 31, 32, 33, 34, 35, 36, 37] (by decide +kernel) (by decide +kernel)
set_option maxRecDepth 20000 in
theorem gX6_addShare_X4_become : GoodIn wsX6_addShare (wsV RX6 189 RX4 yX4_become wsX4_become) := goodIn_app (goodIn_of _ (by decide +kernel)) ggX6_addShare_X4_become
theorem dX6_addShare_0 : decode cX6_addShare 0 = .ok (.aload_n 0, 1) := by decide +kernel
theorem dX6_addShare_1 : decode cX6_addShare 1 = .ok (.getfield 123, 3) := by decide +kernel
theorem dX6_addShare_4 : decode cX6_addShare 4 = .ok (.bipush 60, 2) := by decide +kernel
theorem dX6_addShare_6 : decode cX6_addShare 6 = .ok (.if_icmp .ge 30, 3) := by decide +kernel
theorem dX6_addShare_9 : decode cX6_addShare 9 = .ok (.aload_n 0, 1) := by decide +kernel
theorem dX6_addShare_10 : decode cX6_addShare 10 = .ok (.getfield 44, 3) := by decide +kernel
theorem dX6_addShare_13 : decode cX6_addShare 13 = .ok (.aload_n 0, 1) := by decide +kernel
theorem dX6_addShare_14 : decode cX6_addShare 14 = .ok (.getfield 123, 3) := by decide +kernel
theorem dX6_addShare_17 : decode cX6_addShare 17 = .ok (.aaload, 1) := by decide +kernel
theorem dX6_addShare_18 : decode cX6_addShare 18 = .ok (.iload_n 1, 1) := by decide +kernel
theorem dX6_addShare_19 : decode cX6_addShare 19 = .ok (.iload_n 2, 1) := by decide +kernel
theorem dX6_addShare_20 : decode cX6_addShare 20 = .ok (.iload_n 3, 1) := by decide +kernel
theorem dX6_addShare_21 : decode cX6_addShare 21 = .ok (.iload 4, 2) := by decide +kernel
theorem dX6_addShare_23 : decode cX6_addShare 23 = .ok (.invokevirtual 189, 3) := by decide +kernel
theorem dX6_addShare_26 : decode cX6_addShare 26 = .ok (.aload_n 0, 1) := by decide +kernel
theorem dX6_addShare_27 : decode cX6_addShare 27 = .ok (.dup, 1) := by decide +kernel
theorem dX6_addShare_28 : decode cX6_addShare 28 = .ok (.getfield 123, 3) := by decide +kernel
theorem dX6_addShare_31 : decode cX6_addShare 31 = .ok (.iconst 1, 1) := by decide +kernel
theorem dX6_addShare_32 : decode cX6_addShare 32 = .ok (.iadd, 1) := by decide +kernel
theorem dX6_addShare_33 : decode cX6_addShare 33 = .ok (.putfield 123, 3) := by decide +kernel
theorem dX6_addShare_36 : decode cX6_addShare 36 = .ok (.return_, 1) := by decide +kernel
set_option maxRecDepth 20000 in
theorem ggX6_leaveTo_X6_addShare : GoodIn wsX6_leaveTo wsX6_addShare := goodIn_r _ [10, 11, 12, 13, 14, 15, 16, 17, 18, 19, 20, 21, 22, 23, 24, 32, 33, 34, 35, 36, 37, 38, 39, 40, 41, 42, 43, 44, 45, 46, 47, 25, 26, 27, 28, 29, 30, 31] (by decide +kernel) (by decide +kernel)
set_option maxRecDepth 20000 in
theorem gX6_leaveTo_X6_addShare : GoodIn wsX6_leaveTo (wsV RX6 141 RX6 yX6_addShare wsX6_addShare) := goodIn_app (goodIn_of _ (by decide +kernel)) ggX6_leaveTo_X6_addShare
set_option maxRecDepth 20000 in
theorem ggX6_leaveTo_X4_become : GoodIn wsX6_leaveTo wsX4_become := goodIn_r _ [17, 18, 19, 20, 21, 22, 23, 24, 25, 26, 27, 28, 29, 30, 31] (by decide +kernel) (by decide +kernel)
set_option maxRecDepth 20000 in
theorem gX6_leaveTo_X4_become : GoodIn wsX6_leaveTo (wsV RX6 189 RX4 yX4_become wsX4_become) := goodIn_app (goodIn_of _ (by decide +kernel)) ggX6_leaveTo_X4_become
theorem dX6_leaveTo_0 : decode cX6_leaveTo 0 = .ok (.aload_n 1, 1) := by decide +kernel
theorem dX6_leaveTo_1 : decode cX6_leaveTo 1 = .ok (.getfield 183, 3) := by decide +kernel
theorem dX6_leaveTo_4 : decode cX6_leaveTo 4 = .ok (.istore_n 3, 1) := by decide +kernel
theorem dX6_leaveTo_5 : decode cX6_leaveTo 5 = .ok (.aload_n 1, 1) := by decide +kernel
theorem dX6_leaveTo_6 : decode cX6_leaveTo 6 = .ok (.getfield 173, 3) := by decide +kernel
theorem dX6_leaveTo_9 : decode cX6_leaveTo 9 = .ok (.istore 4, 2) := by decide +kernel
theorem dX6_leaveTo_11 : decode cX6_leaveTo 11 = .ok (.iconst 0, 1) := by decide +kernel
theorem dX6_leaveTo_12 : decode cX6_leaveTo 12 = .ok (.istore 5, 2) := by decide +kernel
theorem dX6_leaveTo_14 : decode cX6_leaveTo 14 = .ok (.iconst 0, 1) := by decide +kernel
theorem dX6_leaveTo_15 : decode cX6_leaveTo 15 = .ok (.istore 6, 2) := by decide +kernel
theorem dX6_leaveTo_17 : decode cX6_leaveTo 17 = .ok (.iload 6, 2) := by decide +kernel
theorem dX6_leaveTo_19 : decode cX6_leaveTo 19 = .ok (.iload_n 2, 1) := by decide +kernel
theorem dX6_leaveTo_20 : decode cX6_leaveTo 20 = .ok (.if_icmp .ge 97, 3) := by decide +kernel
theorem dX6_leaveTo_23 : decode cX6_leaveTo 23 = .ok (.iload 6, 2) := by decide +kernel
theorem dX6_leaveTo_25 : decode cX6_leaveTo 25 = .ok (.iconst 4, 1) := by decide +kernel
theorem dX6_leaveTo_26 : decode cX6_leaveTo 26 = .ok (.if_icmp .ge 91, 3) := by decide +kernel
theorem dX6_leaveTo_29 : decode cX6_leaveTo 29 = .ok (.iload 4, 2) := by decide +kernel
theorem dX6_leaveTo_31 : decode cX6_leaveTo 31 = .ok (.aload_n 0, 1) := by decide +kernel
theorem dX6_leaveTo_32 : decode cX6_leaveTo 32 = .ok (.getfield 52, 3) := by decide +kernel
theorem dX6_leaveTo_35 : decode cX6_leaveTo 35 = .ok (.getfield 352, 3) := by decide +kernel
theorem dX6_leaveTo_38 : decode cX6_leaveTo 38 = .ok (.iload 6, 2) := by decide +kernel
theorem dX6_leaveTo_40 : decode cX6_leaveTo 40 = .ok (.iaload, 1) := by decide +kernel
theorem dX6_leaveTo_41 : decode cX6_leaveTo 41 = .ok (.iadd, 1) := by decide +kernel
theorem dX6_leaveTo_42 : decode cX6_leaveTo 42 = .ok (.istore 7, 2) := by decide +kernel
theorem dX6_leaveTo_44 : decode cX6_leaveTo 44 = .ok (.iload 7, 2) := by decide +kernel
theorem dX6_leaveTo_46 : decode cX6_leaveTo 46 = .ok (.iload 4, 2) := by decide +kernel
theorem dX6_leaveTo_48 : decode cX6_leaveTo 48 = .ok (.if_icmp .le 30, 3) := by decide +kernel
theorem dX6_leaveTo_51 : decode cX6_leaveTo 51 = .ok (.iload 5, 2) := by decide +kernel
theorem dX6_leaveTo_53 : decode cX6_leaveTo 53 = .ok (.ifCond .eq 25, 3) := by decide +kernel
theorem dX6_leaveTo_56 : decode cX6_leaveTo 56 = .ok (.aload_n 0, 1) := by decide +kernel
theorem dX6_leaveTo_57 : decode cX6_leaveTo 57 = .ok (.iload_n 3, 1) := by decide +kernel
theorem dX6_leaveTo_58 : decode cX6_leaveTo 58 = .ok (.iload 4, 2) := by decide +kernel
theorem dX6_leaveTo_60 : decode cX6_leaveTo 60 = .ok (.iload 7, 2) := by decide +kernel
theorem dX6_leaveTo_62 : decode cX6_leaveTo 62 = .ok (.aload_n 0, 1) := by decide +kernel
theorem dX6_leaveTo_63 : decode cX6_leaveTo 63 = .ok (.getfield 52, 3) := by decide +kernel
theorem dX6_leaveTo_66 : decode cX6_leaveTo 66 = .ok (.getfield 354, 3) := by decide +kernel
theorem dX6_leaveTo_69 : decode cX6_leaveTo 69 = .ok (.iload 6, 2) := by decide +kernel
theorem dX6_leaveTo_71 : decode cX6_leaveTo 71 = .ok (.iaload, 1) := by decide +kernel
theorem dX6_leaveTo_72 : decode cX6_leaveTo 72 = .ok (.invokevirtual 141, 3) := by decide +kernel
theorem dX6_leaveTo_75 : decode cX6_leaveTo 75 = .ok (.goto 32, 3) := by decide +kernel
theorem dX6_leaveTo_78 : decode cX6_leaveTo 78 = .ok (.iload 7, 2) := by decide +kernel
theorem dX6_leaveTo_80 : decode cX6_leaveTo 80 = .ok (.iload 4, 2) := by decide +kernel
theorem dX6_leaveTo_82 : decode cX6_leaveTo 82 = .ok (.if_icmp .le 25, 3) := by decide +kernel
theorem dX6_leaveTo_85 : decode cX6_leaveTo 85 = .ok (.aload_n 1, 1) := by decide +kernel
theorem dX6_leaveTo_86 : decode cX6_leaveTo 86 = .ok (.iload_n 3, 1) := by decide +kernel
theorem dX6_leaveTo_87 : decode cX6_leaveTo 87 = .ok (.iload 4, 2) := by decide +kernel
theorem dX6_leaveTo_89 : decode cX6_leaveTo 89 = .ok (.iload 7, 2) := by decide +kernel
theorem dX6_leaveTo_91 : decode cX6_leaveTo 91 = .ok (.aload_n 0, 1) := by decide +kernel
theorem dX6_leaveTo_92 : decode cX6_leaveTo 92 = .ok (.getfield 52, 3) := by decide +kernel
theorem dX6_leaveTo_95 : decode cX6_leaveTo 95 = .ok (.getfield 354, 3) := by decide +kernel
theorem dX6_leaveTo_98 : decode cX6_leaveTo 98 = .ok (.iload 6, 2) := by decide +kernel
theorem dX6_leaveTo_100 : decode cX6_leaveTo 100 = .ok (.iaload, 1) := by decide +kernel
theorem dX6_leaveTo_101 : decode cX6_leaveTo 101 = .ok (.invokevirtual 189, 3) := by decide +kernel
theorem dX6_leaveTo_104 : decode cX6_leaveTo 104 = .ok (.iconst 1, 1) := by decide +kernel
theorem dX6_leaveTo_105 : decode cX6_leaveTo 105 = .ok (.istore 5, 2) := by decide +kernel
theorem dX6_leaveTo_107 : decode cX6_leaveTo 107 = .ok (.iload 7, 2) := by decide +kernel
theorem dX6_leaveTo_109 : decode cX6_leaveTo 109 = .ok (.istore 4, 2) := by decide +kernel
theorem dX6_leaveTo_111 : decode cX6_leaveTo 111 = .ok (.iinc 6 1, 3) := by decide +kernel
theorem dX6_leaveTo_114 : decode cX6_leaveTo 114 = .ok (.goto (-97), 3) := by decide +kernel
theorem dX6_leaveTo_117 : decode cX6_leaveTo 117 = .ok (.return_, 1) := by decide +kernel
set_option maxRecDepth 20000 in
theorem ggX6_letShares_X4_isLetFrom : GoodIn wsX6_letShares wsX4_isLetFrom := goodIn_r _ [8, 9, 26, 27, 28, 29, 30, 31, 32] (by decide +kernel) (by decide +kernel)
set_option maxRecDepth 20000 in
theorem gX6_letShares_X4_isLetFrom : GoodIn wsX6_letShares (wsV RX6 238 RX4 yX4_isLetFrom wsX4_isLetFrom) := goodIn_app (goodIn_of _ (by decide +kernel)) ggX6_letShares_X4_isLetFrom
theorem dX6_letShares_0 : decode cX6_letShares 0 = .ok (.iconst 0, 1) := by decide +kernel
theorem dX6_letShares_1 : decode cX6_letShares 1 = .ok (.istore_n 1, 1) := by decide +kernel
theorem dX6_letShares_2 : decode cX6_letShares 2 = .ok (.iconst 0, 1) := by decide +kernel
theorem dX6_letShares_3 : decode cX6_letShares 3 = .ok (.istore_n 2, 1) := by decide +kernel
theorem dX6_letShares_4 : decode cX6_letShares 4 = .ok (.iload_n 2, 1) := by decide +kernel
theorem dX6_letShares_5 : decode cX6_letShares 5 = .ok (.aload_n 0, 1) := by decide +kernel
theorem dX6_letShares_6 : decode cX6_letShares 6 = .ok (.getfield 123, 3) := by decide +kernel
theorem dX6_letShares_9 : decode cX6_letShares 9 = .ok (.if_icmp .ge 28, 3) := by decide +kernel
theorem dX6_letShares_12 : decode cX6_letShares 12 = .ok (.aload_n 0, 1) := by decide +kernel
theorem dX6_letShares_13 : decode cX6_letShares 13 = .ok (.getfield 44, 3) := by decide +kernel
theorem dX6_letShares_16 : decode cX6_letShares 16 = .ok (.iload_n 2, 1) := by decide +kernel
theorem dX6_letShares_17 : decode cX6_letShares 17 = .ok (.aaload, 1) := by decide +kernel
theorem dX6_letShares_18 : decode cX6_letShares 18 = .ok (.aload_n 0, 1) := by decide +kernel
theorem dX6_letShares_19 : decode cX6_letShares 19 = .ok (.getfield 208, 3) := by decide +kernel
theorem dX6_letShares_22 : decode cX6_letShares 22 = .ok (.invokevirtual 238, 3) := by decide +kernel
theorem dX6_letShares_25 : decode cX6_letShares 25 = .ok (.ifCond .eq 6, 3) := by decide +kernel
theorem dX6_letShares_28 : decode cX6_letShares 28 = .ok (.iinc 1 1, 3) := by decide +kernel
theorem dX6_letShares_31 : decode cX6_letShares 31 = .ok (.iinc 2 1, 3) := by decide +kernel
theorem dX6_letShares_34 : decode cX6_letShares 34 = .ok (.goto (-30), 3) := by decide +kernel
theorem dX6_letShares_37 : decode cX6_letShares 37 = .ok (.iload_n 1, 1) := by decide +kernel
theorem dX6_letShares_38 : decode cX6_letShares 38 = .ok (.ireturn, 1) := by decide +kernel
theorem dX6_weighOwners_0 : decode cX6_weighOwners 0 = .ok (.iconst 0, 1) := by decide +kernel
theorem dX6_weighOwners_1 : decode cX6_weighOwners 1 = .ok (.istore_n 2, 1) := by decide +kernel
theorem dX6_weighOwners_2 : decode cX6_weighOwners 2 = .ok (.iload_n 2, 1) := by decide +kernel
theorem dX6_weighOwners_3 : decode cX6_weighOwners 3 = .ok (.bipush 30, 2) := by decide +kernel
theorem dX6_weighOwners_5 : decode cX6_weighOwners 5 = .ok (.if_icmp .gt 16, 3) := by decide +kernel
theorem dX6_weighOwners_8 : decode cX6_weighOwners 8 = .ok (.aload_n 0, 1) := by decide +kernel
theorem dX6_weighOwners_9 : decode cX6_weighOwners 9 = .ok (.getfield 56, 3) := by decide +kernel
theorem dX6_weighOwners_12 : decode cX6_weighOwners 12 = .ok (.iload_n 2, 1) := by decide +kernel
theorem dX6_weighOwners_13 : decode cX6_weighOwners 13 = .ok (.iconst 0, 1) := by decide +kernel
theorem dX6_weighOwners_14 : decode cX6_weighOwners 14 = .ok (.iastore, 1) := by decide +kernel
theorem dX6_weighOwners_15 : decode cX6_weighOwners 15 = .ok (.iinc 2 1, 3) := by decide +kernel
theorem dX6_weighOwners_18 : decode cX6_weighOwners 18 = .ok (.goto (-16), 3) := by decide +kernel
theorem dX6_weighOwners_21 : decode cX6_weighOwners 21 = .ok (.aload_n 0, 1) := by decide +kernel
theorem dX6_weighOwners_22 : decode cX6_weighOwners 22 = .ok (.getfield 21, 3) := by decide +kernel
theorem dX6_weighOwners_25 : decode cX6_weighOwners 25 = .ok (.iconst 2, 1) := by decide +kernel
theorem dX6_weighOwners_26 : decode cX6_weighOwners 26 = .ok (.iaload, 1) := by decide +kernel
theorem dX6_weighOwners_27 : decode cX6_weighOwners 27 = .ok (.iconst 1, 1) := by decide +kernel
theorem dX6_weighOwners_28 : decode cX6_weighOwners 28 = .ok (.if_icmp .ne 7, 3) := by decide +kernel
theorem dX6_weighOwners_31 : decode cX6_weighOwners 31 = .ok (.iconst 1, 1) := by decide +kernel
theorem dX6_weighOwners_32 : decode cX6_weighOwners 32 = .ok (.goto 4, 3) := by decide +kernel
theorem dX6_weighOwners_35 : decode cX6_weighOwners 35 = .ok (.iconst 0, 1) := by decide +kernel
theorem dX6_weighOwners_36 : decode cX6_weighOwners 36 = .ok (.istore_n 2, 1) := by decide +kernel
theorem dX6_weighOwners_37 : decode cX6_weighOwners 37 = .ok (.iconst 0, 1) := by decide +kernel
theorem dX6_weighOwners_38 : decode cX6_weighOwners 38 = .ok (.istore_n 3, 1) := by decide +kernel
theorem dX6_weighOwners_39 : decode cX6_weighOwners 39 = .ok (.iload_n 3, 1) := by decide +kernel
theorem dX6_weighOwners_40 : decode cX6_weighOwners 40 = .ok (.aload_n 0, 1) := by decide +kernel
theorem dX6_weighOwners_41 : decode cX6_weighOwners 41 = .ok (.getfield 123, 3) := by decide +kernel
theorem dX6_weighOwners_44 : decode cX6_weighOwners 44 = .ok (.if_icmp .ge 66, 3) := by decide +kernel
theorem dX6_weighOwners_47 : decode cX6_weighOwners 47 = .ok (.aload_n 0, 1) := by decide +kernel
theorem dX6_weighOwners_48 : decode cX6_weighOwners 48 = .ok (.getfield 44, 3) := by decide +kernel
theorem dX6_weighOwners_51 : decode cX6_weighOwners 51 = .ok (.iload_n 3, 1) := by decide +kernel
theorem dX6_weighOwners_52 : decode cX6_weighOwners 52 = .ok (.aaload, 1) := by decide +kernel
theorem dX6_weighOwners_53 : decode cX6_weighOwners 53 = .ok (.astore 4, 2) := by decide +kernel
theorem dX6_weighOwners_55 : decode cX6_weighOwners 55 = .ok (.aload 4, 2) := by decide +kernel
theorem dX6_weighOwners_57 : decode cX6_weighOwners 57 = .ok (.getfield 183, 3) := by decide +kernel
theorem dX6_weighOwners_60 : decode cX6_weighOwners 60 = .ok (.iload_n 1, 1) := by decide +kernel
theorem dX6_weighOwners_61 : decode cX6_weighOwners 61 = .ok (.if_icmp .ne 43, 3) := by decide +kernel
theorem dX6_weighOwners_64 : decode cX6_weighOwners 64 = .ok (.aload_n 0, 1) := by decide +kernel
theorem dX6_weighOwners_65 : decode cX6_weighOwners 65 = .ok (.getfield 56, 3) := by decide +kernel
theorem dX6_weighOwners_68 : decode cX6_weighOwners 68 = .ok (.aload 4, 2) := by decide +kernel
theorem dX6_weighOwners_70 : decode cX6_weighOwners 70 = .ok (.getfield 186, 3) := by decide +kernel
theorem dX6_weighOwners_73 : decode cX6_weighOwners 73 = .ok (.iload_n 2, 1) := by decide +kernel
theorem dX6_weighOwners_74 : decode cX6_weighOwners 74 = .ok (.ifCond .eq 7, 3) := by decide +kernel
theorem dX6_weighOwners_77 : decode cX6_weighOwners 77 = .ok (.iconst 1, 1) := by decide +kernel
theorem dX6_weighOwners_78 : decode cX6_weighOwners 78 = .ok (.goto 25, 3) := by decide +kernel
theorem dX6_weighOwners_81 : decode cX6_weighOwners 81 = .ok (.aload_n 0, 1) := by decide +kernel
theorem dX6_weighOwners_82 : decode cX6_weighOwners 82 = .ok (.getfield 56, 3) := by decide +kernel
theorem dX6_weighOwners_85 : decode cX6_weighOwners 85 = .ok (.aload 4, 2) := by decide +kernel
theorem dX6_weighOwners_87 : decode cX6_weighOwners 87 = .ok (.getfield 186, 3) := by decide +kernel
theorem dX6_weighOwners_90 : decode cX6_weighOwners 90 = .ok (.iaload, 1) := by decide +kernel
theorem dX6_weighOwners_91 : decode cX6_weighOwners 91 = .ok (.aload 4, 2) := by decide +kernel
theorem dX6_weighOwners_93 : decode cX6_weighOwners 93 = .ok (.getfield 176, 3) := by decide +kernel
theorem dX6_weighOwners_96 : decode cX6_weighOwners 96 = .ok (.iadd, 1) := by decide +kernel
theorem dX6_weighOwners_97 : decode cX6_weighOwners 97 = .ok (.aload 4, 2) := by decide +kernel
theorem dX6_weighOwners_99 : decode cX6_weighOwners 99 = .ok (.getfield 173, 3) := by decide +kernel
theorem dX6_weighOwners_102 : decode cX6_weighOwners 102 = .ok (.isub, 1) := by decide +kernel
theorem dX6_weighOwners_103 : decode cX6_weighOwners 103 = .ok (.iastore, 1) := by decide +kernel
theorem dX6_weighOwners_104 : decode cX6_weighOwners 104 = .ok (.iinc 3 1, 3) := by decide +kernel
theorem dX6_weighOwners_107 : decode cX6_weighOwners 107 = .ok (.goto (-68), 3) := by decide +kernel
theorem dX6_weighOwners_110 : decode cX6_weighOwners 110 = .ok (.return_, 1) := by decide +kernel
set_option maxRecDepth 20000 in
theorem ggX6_paidBy_X6_partOf : GoodIn wsX6_paidBy wsX6_partOf := goodIn_r _ [5] (by decide +kernel) (by decide +kernel)
set_option maxRecDepth 20000 in
theorem gX6_paidBy_X6_partOf : GoodIn wsX6_paidBy (va_wsS RX6 272 yX6_partOf wsX6_partOf) := goodIn_app (goodIn_of _ (by decide +kernel)) ggX6_paidBy_X6_partOf
theorem dX6_paidBy_0 : decode cX6_paidBy 0 = .ok (.iconst 0, 1) := by decide +kernel
theorem dX6_paidBy_1 : decode cX6_paidBy 1 = .ok (.istore_n 3, 1) := by decide +kernel
theorem dX6_paidBy_2 : decode cX6_paidBy 2 = .ok (.iconst 0, 1) := by decide +kernel
theorem dX6_paidBy_3 : decode cX6_paidBy 3 = .ok (.istore 4, 2) := by decide +kernel
theorem dX6_paidBy_5 : decode cX6_paidBy 5 = .ok (.iload 4, 2) := by decide +kernel
theorem dX6_paidBy_7 : decode cX6_paidBy 7 = .ok (.bipush 30, 2) := by decide +kernel
theorem dX6_paidBy_9 : decode cX6_paidBy 9 = .ok (.if_icmp .gt 19, 3) := by decide +kernel
theorem dX6_paidBy_12 : decode cX6_paidBy 12 = .ok (.iload_n 3, 1) := by decide +kernel
theorem dX6_paidBy_13 : decode cX6_paidBy 13 = .ok (.aload_n 0, 1) := by decide +kernel
theorem dX6_paidBy_14 : decode cX6_paidBy 14 = .ok (.getfield 56, 3) := by decide +kernel
theorem dX6_paidBy_17 : decode cX6_paidBy 17 = .ok (.iload 4, 2) := by decide +kernel
theorem dX6_paidBy_19 : decode cX6_paidBy 19 = .ok (.iaload, 1) := by decide +kernel
theorem dX6_paidBy_20 : decode cX6_paidBy 20 = .ok (.iadd, 1) := by decide +kernel
theorem dX6_paidBy_21 : decode cX6_paidBy 21 = .ok (.istore_n 3, 1) := by decide +kernel
theorem dX6_paidBy_22 : decode cX6_paidBy 22 = .ok (.iinc 4 1, 3) := by decide +kernel
theorem dX6_paidBy_25 : decode cX6_paidBy 25 = .ok (.goto (-20), 3) := by decide +kernel
theorem dX6_paidBy_28 : decode cX6_paidBy 28 = .ok (.iload_n 2, 1) := by decide +kernel
theorem dX6_paidBy_29 : decode cX6_paidBy 29 = .ok (.istore 4, 2) := by decide +kernel
theorem dX6_paidBy_31 : decode cX6_paidBy 31 = .ok (.iconst 0, 1) := by decide +kernel
theorem dX6_paidBy_32 : decode cX6_paidBy 32 = .ok (.istore 5, 2) := by decide +kernel
theorem dX6_paidBy_34 : decode cX6_paidBy 34 = .ok (.iconst 0, 1) := by decide +kernel
theorem dX6_paidBy_35 : decode cX6_paidBy 35 = .ok (.istore 6, 2) := by decide +kernel
theorem dX6_paidBy_37 : decode cX6_paidBy 37 = .ok (.iload 6, 2) := by decide +kernel
theorem dX6_paidBy_39 : decode cX6_paidBy 39 = .ok (.bipush 30, 2) := by decide +kernel
theorem dX6_paidBy_41 : decode cX6_paidBy 41 = .ok (.if_icmp .gt 45, 3) := by decide +kernel
theorem dX6_paidBy_44 : decode cX6_paidBy 44 = .ok (.iload 4, 2) := by decide +kernel
theorem dX6_paidBy_46 : decode cX6_paidBy 46 = .ok (.iload_n 2, 1) := by decide +kernel
theorem dX6_paidBy_47 : decode cX6_paidBy 47 = .ok (.aload_n 0, 1) := by decide +kernel
theorem dX6_paidBy_48 : decode cX6_paidBy 48 = .ok (.getfield 56, 3) := by decide +kernel
theorem dX6_paidBy_51 : decode cX6_paidBy 51 = .ok (.iload 6, 2) := by decide +kernel
theorem dX6_paidBy_53 : decode cX6_paidBy 53 = .ok (.iaload, 1) := by decide +kernel
theorem dX6_paidBy_54 : decode cX6_paidBy 54 = .ok (.iload_n 3, 1) := by decide +kernel
theorem dX6_paidBy_55 : decode cX6_paidBy 55 = .ok (.invokestatic 272, 3) := by decide +kernel
theorem dX6_paidBy_58 : decode cX6_paidBy 58 = .ok (.isub, 1) := by decide +kernel
theorem dX6_paidBy_59 : decode cX6_paidBy 59 = .ok (.istore 4, 2) := by decide +kernel
theorem dX6_paidBy_61 : decode cX6_paidBy 61 = .ok (.iload 6, 2) := by decide +kernel
theorem dX6_paidBy_63 : decode cX6_paidBy 63 = .ok (.iload_n 1, 1) := by decide +kernel
theorem dX6_paidBy_64 : decode cX6_paidBy 64 = .ok (.if_icmp .ge 16, 3) := by decide +kernel
theorem dX6_paidBy_67 : decode cX6_paidBy 67 = .ok (.aload_n 0, 1) := by decide +kernel
theorem dX6_paidBy_68 : decode cX6_paidBy 68 = .ok (.getfield 56, 3) := by decide +kernel
theorem dX6_paidBy_71 : decode cX6_paidBy 71 = .ok (.iload 6, 2) := by decide +kernel
theorem dX6_paidBy_73 : decode cX6_paidBy 73 = .ok (.iaload, 1) := by decide +kernel
theorem dX6_paidBy_74 : decode cX6_paidBy 74 = .ok (.ifCond .le 6, 3) := by decide +kernel
theorem dX6_paidBy_77 : decode cX6_paidBy 77 = .ok (.iinc 5 1, 3) := by decide +kernel
theorem dX6_paidBy_80 : decode cX6_paidBy 80 = .ok (.iinc 6 1, 3) := by decide +kernel
theorem dX6_paidBy_83 : decode cX6_paidBy 83 = .ok (.goto (-46), 3) := by decide +kernel
theorem dX6_paidBy_86 : decode cX6_paidBy 86 = .ok (.aload_n 0, 1) := by decide +kernel
theorem dX6_paidBy_87 : decode cX6_paidBy 87 = .ok (.getfield 56, 3) := by decide +kernel
theorem dX6_paidBy_90 : decode cX6_paidBy 90 = .ok (.iload_n 1, 1) := by decide +kernel
theorem dX6_paidBy_91 : decode cX6_paidBy 91 = .ok (.iaload, 1) := by decide +kernel
theorem dX6_paidBy_92 : decode cX6_paidBy 92 = .ok (.ifCond .ne 5, 3) := by decide +kernel
theorem dX6_paidBy_95 : decode cX6_paidBy 95 = .ok (.iconst 0, 1) := by decide +kernel
theorem dX6_paidBy_96 : decode cX6_paidBy 96 = .ok (.ireturn, 1) := by decide +kernel
theorem dX6_paidBy_97 : decode cX6_paidBy 97 = .ok (.iload_n 2, 1) := by decide +kernel
theorem dX6_paidBy_98 : decode cX6_paidBy 98 = .ok (.aload_n 0, 1) := by decide +kernel
theorem dX6_paidBy_99 : decode cX6_paidBy 99 = .ok (.getfield 56, 3) := by decide +kernel
theorem dX6_paidBy_102 : decode cX6_paidBy 102 = .ok (.iload_n 1, 1) := by decide +kernel
theorem dX6_paidBy_103 : decode cX6_paidBy 103 = .ok (.iaload, 1) := by decide +kernel
theorem dX6_paidBy_104 : decode cX6_paidBy 104 = .ok (.iload_n 3, 1) := by decide +kernel
theorem dX6_paidBy_105 : decode cX6_paidBy 105 = .ok (.invokestatic 272, 3) := by decide +kernel
theorem dX6_paidBy_108 : decode cX6_paidBy 108 = .ok (.iload 5, 2) := by decide +kernel
theorem dX6_paidBy_110 : decode cX6_paidBy 110 = .ok (.iload 4, 2) := by decide +kernel
theorem dX6_paidBy_112 : decode cX6_paidBy 112 = .ok (.if_icmp .ge 7, 3) := by decide +kernel
theorem dX6_paidBy_115 : decode cX6_paidBy 115 = .ok (.iconst 1, 1) := by decide +kernel
theorem dX6_paidBy_116 : decode cX6_paidBy 116 = .ok (.goto 4, 3) := by decide +kernel
theorem dX6_paidBy_119 : decode cX6_paidBy 119 = .ok (.iconst 0, 1) := by decide +kernel
theorem dX6_paidBy_120 : decode cX6_paidBy 120 = .ok (.iadd, 1) := by decide +kernel
theorem dX6_paidBy_121 : decode cX6_paidBy 121 = .ok (.ireturn, 1) := by decide +kernel
theorem dX7_init_0 : decode cX7_init 0 = .ok (.aload_n 0, 1) := by decide +kernel
theorem dX7_init_1 : decode cX7_init 1 = .ok (.invokespecial 1, 3) := by decide +kernel
theorem dX7_init_4 : decode cX7_init 4 = .ok (.aload_n 0, 1) := by decide +kernel
theorem dX7_init_5 : decode cX7_init 5 = .ok (.sipush 500, 3) := by decide +kernel
theorem dX7_init_8 : decode cX7_init 8 = .ok (.putfield 7, 3) := by decide +kernel
theorem dX7_init_11 : decode cX7_init 11 = .ok (.aload_n 0, 1) := by decide +kernel
theorem dX7_init_12 : decode cX7_init 12 = .ok (.iconst 2, 1) := by decide +kernel
theorem dX7_init_13 : decode cX7_init 13 = .ok (.putfield 13, 3) := by decide +kernel
theorem dX7_init_16 : decode cX7_init 16 = .ok (.aload_n 0, 1) := by decide +kernel
theorem dX7_init_17 : decode cX7_init 17 = .ok (.bipush 8, 2) := by decide +kernel
theorem dX7_init_19 : decode cX7_init 19 = .ok (.newarray .int, 2) := by decide +kernel
theorem dX7_init_21 : decode cX7_init 21 = .ok (.putfield 16, 3) := by decide +kernel
theorem dX7_init_24 : decode cX7_init 24 = .ok (.aload_n 0, 1) := by decide +kernel
theorem dX7_init_25 : decode cX7_init 25 = .ok (.bipush 8, 2) := by decide +kernel
theorem dX7_init_27 : decode cX7_init 27 = .ok (.newarray .boolean, 2) := by decide +kernel
theorem dX7_init_29 : decode cX7_init 29 = .ok (.putfield 20, 3) := by decide +kernel
theorem dX7_init_32 : decode cX7_init 32 = .ok (.aload_n 0, 1) := by decide +kernel
theorem dX7_init_33 : decode cX7_init 33 = .ok (.bipush 8, 2) := by decide +kernel
theorem dX7_init_35 : decode cX7_init 35 = .ok (.newarray .int, 2) := by decide +kernel
theorem dX7_init_37 : decode cX7_init 37 = .ok (.putfield 24, 3) := by decide +kernel
theorem dX7_init_40 : decode cX7_init 40 = .ok (.aload_n 0, 1) := by decide +kernel
theorem dX7_init_41 : decode cX7_init 41 = .ok (.bipush 8, 2) := by decide +kernel
theorem dX7_init_43 : decode cX7_init 43 = .ok (.newarray .int, 2) := by decide +kernel
theorem dX7_init_45 : decode cX7_init 45 = .ok (.putfield 27, 3) := by decide +kernel
theorem dX7_init_48 : decode cX7_init 48 = .ok (.aload_n 0, 1) := by decide +kernel
theorem dX7_init_49 : decode cX7_init 49 = .ok (.bipush 8, 2) := by decide +kernel
theorem dX7_init_51 : decode cX7_init 51 = .ok (.newarray .int, 2) := by decide +kernel
theorem dX7_init_53 : decode cX7_init 53 = .ok (.putfield 30, 3) := by decide +kernel
theorem dX7_init_56 : decode cX7_init 56 = .ok (.aload_n 0, 1) := by decide +kernel
theorem dX7_init_57 : decode cX7_init 57 = .ok (.sipush 160, 3) := by decide +kernel
theorem dX7_init_60 : decode cX7_init 60 = .ok (.newarray .int, 2) := by decide +kernel
theorem dX7_init_62 : decode cX7_init 62 = .ok (.putfield 33, 3) := by decide +kernel
theorem dX7_init_65 : decode cX7_init 65 = .ok (.aload_n 0, 1) := by decide +kernel
theorem dX7_init_66 : decode cX7_init 66 = .ok (.sipush 160, 3) := by decide +kernel
theorem dX7_init_69 : decode cX7_init 69 = .ok (.newarray .int, 2) := by decide +kernel
theorem dX7_init_71 : decode cX7_init 71 = .ok (.putfield 36, 3) := by decide +kernel
theorem dX7_init_74 : decode cX7_init 74 = .ok (.aload_n 0, 1) := by decide +kernel
theorem dX7_init_75 : decode cX7_init 75 = .ok (.sipush 160, 3) := by decide +kernel
theorem dX7_init_78 : decode cX7_init 78 = .ok (.newarray .int, 2) := by decide +kernel
theorem dX7_init_80 : decode cX7_init 80 = .ok (.putfield 39, 3) := by decide +kernel
theorem dX7_init_83 : decode cX7_init 83 = .ok (.aload_n 0, 1) := by decide +kernel
theorem dX7_init_84 : decode cX7_init 84 = .ok (.sipush 160, 3) := by decide +kernel
theorem dX7_init_87 : decode cX7_init 87 = .ok (.newarray .boolean, 2) := by decide +kernel
theorem dX7_init_89 : decode cX7_init 89 = .ok (.putfield 42, 3) := by decide +kernel
theorem dX7_init_92 : decode cX7_init 92 = .ok (.aload_n 0, 1) := by decide +kernel
theorem dX7_init_93 : decode cX7_init 93 = .ok (.sipush 420, 3) := by decide +kernel
theorem dX7_init_96 : decode cX7_init 96 = .ok (.newarray .int, 2) := by decide +kernel
theorem dX7_init_98 : decode cX7_init 98 = .ok (.putfield 45, 3) := by decide +kernel
theorem dX7_init_101 : decode cX7_init 101 = .ok (.aload_n 0, 1) := by decide +kernel
theorem dX7_init_102 : decode cX7_init 102 = .ok (.iconst 4, 1) := by decide +kernel
theorem dX7_init_103 : decode cX7_init 103 = .ok (.newarray .int, 2) := by decide +kernel
theorem dX7_init_105 : decode cX7_init 105 = .ok (.putfield 48, 3) := by decide +kernel
theorem dX7_init_108 : decode cX7_init 108 = .ok (.aload_n 0, 1) := by decide +kernel
theorem dX7_init_109 : decode cX7_init 109 = .ok (.iconst 4, 1) := by decide +kernel
theorem dX7_init_110 : decode cX7_init 110 = .ok (.newarray .int, 2) := by decide +kernel
theorem dX7_init_112 : decode cX7_init 112 = .ok (.putfield 51, 3) := by decide +kernel
theorem dX7_init_115 : decode cX7_init 115 = .ok (.aload_n 0, 1) := by decide +kernel
theorem dX7_init_116 : decode cX7_init 116 = .ok (.iconst 4, 1) := by decide +kernel
theorem dX7_init_117 : decode cX7_init 117 = .ok (.newarray .int, 2) := by decide +kernel
theorem dX7_init_119 : decode cX7_init 119 = .ok (.putfield 54, 3) := by decide +kernel
theorem dX7_init_122 : decode cX7_init 122 = .ok (.aload_n 0, 1) := by decide +kernel
theorem dX7_init_123 : decode cX7_init 123 = .ok (.iconst 4, 1) := by decide +kernel
theorem dX7_init_124 : decode cX7_init 124 = .ok (.newarray .int, 2) := by decide +kernel
theorem dX7_init_126 : decode cX7_init 126 = .ok (.putfield 57, 3) := by decide +kernel
theorem dX7_init_129 : decode cX7_init 129 = .ok (.aload_n 0, 1) := by decide +kernel
theorem dX7_init_130 : decode cX7_init 130 = .ok (.iconst 4, 1) := by decide +kernel
theorem dX7_init_131 : decode cX7_init 131 = .ok (.newarray .int, 2) := by decide +kernel
theorem dX7_init_133 : decode cX7_init 133 = .ok (.putfield 60, 3) := by decide +kernel
theorem dX7_init_136 : decode cX7_init 136 = .ok (.aload_n 0, 1) := by decide +kernel
theorem dX7_init_137 : decode cX7_init 137 = .ok (.sipush 400, 3) := by decide +kernel
theorem dX7_init_140 : decode cX7_init 140 = .ok (.newarray .byte, 2) := by decide +kernel
theorem dX7_init_142 : decode cX7_init 142 = .ok (.putfield 63, 3) := by decide +kernel
theorem dX7_init_145 : decode cX7_init 145 = .ok (.aload_n 0, 1) := by decide +kernel
theorem dX7_init_146 : decode cX7_init 146 = .ok (.iconst (-1), 1) := by decide +kernel
